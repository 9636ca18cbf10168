/** The families once more: a file is looked at by absolute places, rows are kept apart. */
final class ModelReader {
    private static final class Fault extends RuntimeException {
        private static final long serialVersionUID = 1L;
        final int fault;
        final int place;

        Fault(int fault, int place) {
            super(null, null, false, false);
            this.fault = fault;
            this.place = place;
        }
    }

    private final byte[] file;
    private int p = 0;
    int fault = 0;
    int place = -1;
    int[] told = new int[4];
    int[][] rows;

    private ModelReader(byte[] file) {
        this.file = file;
    }

    static ModelReader read(int family, byte[] file) {
        ModelReader r = new ModelReader(file);
        r.told[0] = family;
        try {
            switch (family) {
                case 0: r.qoi(); break;
                case 1: r.pnm(); break;
                case 2: r.bmp(); break;
                case 3: r.tga(); break;
                default: r.pcx(); break;
            }
        } catch (Fault f) {
            r.fault = f.fault;
            r.place = f.place;
        }
        return r;
    }

    private void tell(int first, int second, int third) {
        told[1] = first;
        told[2] = second;
        told[3] = third;
    }

    private static void check(boolean can, int fault, int place) {
        if (!can) {
            throw new Fault(fault, place);
        }
    }

    private int u1(int at) {
        check(at < file.length, 1, file.length);
        return file[at] & 255;
    }

    private long low(int at, int many) {
        check(at + many <= file.length, 1, file.length);
        long all = 0;
        for (int k = many - 1; k >= 0; k--) {
            all = all * 256 + (file[at + k] & 255);
        }
        return all;
    }

    private long high(int at, int many) {
        check(at + many <= file.length, 1, file.length);
        long all = 0;
        for (int k = 0; k < many; k++) {
            all = all * 256 + (file[at + k] & 255);
        }
        return all;
    }

    private void size(long width, long height, int place) {
        check(width <= 4096 && height <= 4096 && width * height <= 4096, 3, place);
        rows = new int[(int) height][(int) width];
    }

    private static int rgba(int r, int g, int b, int a) {
        return ((r * 256 + g) * 256 + b) * 256 + a;
    }

    private void end() {
        check(p >= file.length, 5, p);
    }

    private void qoi() {
        for (int i = 0; i < 4; i++) {
            check(u1(i) == "qoif".charAt(i), 2, i);
        }
        long width = high(4, 4);
        check(width > 0, 2, 4);
        long height = high(8, 4);
        check(height > 0, 2, 8);
        size(width, height, 8);
        int channels = u1(12);
        check(channels == 3 || channels == 4, 2, 12);
        int space = u1(13);
        check(space < 2, 2, 13);
        p = 14;
        int[][] places = new int[64][4];
        int[] now = {0, 0, 0, 255};
        int before = -1;
        int chunks = 0;
        int total = (int) (width * height);
        int done = 0;
        while (done < total) {
            int b = u1(p);
            int times = 1;
            int length = 1;
            now = now.clone();
            if (b == 254 || b == 255) {
                length = b - 250;
                for (int k = 1; k < length; k++) {
                    now[k - 1] = u1(p + k);
                }
            } else if (b < 64) {
                check(b != before, 4, p);
                now = places[b].clone();
            } else if (b < 128) {
                now[0] = now[0] + b / 16 % 4 + 254;
                now[1] = now[1] + b / 4 % 4 + 254;
                now[2] = now[2] + b % 4 + 254;
            } else if (b < 192) {
                int c = u1(p + 1);
                length = 2;
                int d = b % 64 - 32 + 256;
                now[1] += d;
                now[0] += d + c / 16 + 248;
                now[2] += d + c % 16 + 248;
            } else {
                times = b - 191;
                check(done + times <= total, 4, p);
            }
            for (int k = 0; k < 3; k++) {
                now[k] %= 256;
            }
            for (int k = 0; k < times; k++) {
                rows[done / (int) width][done % (int) width] = rgba(now[0], now[1], now[2], now[3]);
                done++;
            }
            places[(3 * now[0] + 5 * now[1] + 7 * now[2] + 11 * now[3]) % 64] = now;
            before = b;
            p += length;
            chunks++;
        }
        for (int k = 0; k < 8; k++) {
            check(u1(p) == k / 7, 2, p);
            p++;
        }
        end();
        tell(channels, space, chunks);
    }

    private static boolean blank(int b) {
        return "\t\n\u000B\f\r ".indexOf(b) >= 0;
    }

    private void blanks() {
        while (p < file.length) {
            int b = u1(p);
            if (b == '#') {
                while (p < file.length && u1(p) != '\n') {
                    p++;
                }
                p = Math.min(p + 1, file.length);
            } else if (blank(b)) {
                p++;
            } else {
                return;
            }
        }
    }

    private void gap() {
        int b = u1(p);
        check(b == '#' || blank(b), 2, p);
        blanks();
    }

    private int number() {
        check("0123456789".indexOf(u1(p)) >= 0, 2, p);
        StringBuilder digits = new StringBuilder();
        while (p < file.length && Character.digit(u1(p), 10) >= 0 && u1(p) < 128) {
            digits.append((char) u1(p));
            p++;
        }
        return new java.math.BigInteger(digits.toString()).min(java.math.BigInteger.valueOf(1000000)).intValue();
    }

    private void pnm() {
        check(u1(0) == 'P', 2, 0);
        int k = u1(1) - '0';
        check(k >= 1 && k <= 6, 2, 1);
        p = 2;
        gap();
        int at = p;
        int width = number();
        check(width != 0, 2, at);
        check(width <= 4096, 3, at);
        gap();
        at = p;
        int height = number();
        check(height != 0, 2, at);
        size(width, height, at);
        int max = 1;
        if (k % 3 != 1) {
            gap();
            at = p;
            max = number();
            check(max >= 1 && max <= 65535, 2, at);
        }
        if (k > 3) {
            check(blank(u1(p)), 2, p);
            p++;
        }
        tell(k, max, p);
        boolean begun = false;
        for (int y = 0; y < height; y++) {
            int bits = 0;
            for (int x = 0; x < width; x++) {
                int[] three = new int[3];
                for (int s = 0; s < (k % 3 == 0 ? 3 : 1); s++) {
                    if (k == 1) {
                        if (begun) {
                            blanks();
                        } else {
                            gap();
                        }
                        begun = true;
                        check(u1(p) == '0' || u1(p) == '1', 2, p);
                        three[s] = '1' - u1(p);
                        p++;
                    } else if (k == 4) {
                        if (x % 8 == 0) {
                            bits = u1(p);
                            p++;
                        }
                        three[s] = (bits & 1 << 7 - x % 8) != 0 ? 0 : 1;
                    } else if (k < 4) {
                        gap();
                        at = p;
                        three[s] = number();
                        check(three[s] <= max, 6, at);
                    } else {
                        int many = max < 256 ? 1 : 2;
                        three[s] = (int) high(p, many);
                        check(three[s] <= max, 6, p);
                        p += many;
                    }
                    three[s] = (510 * three[s] + max) / (2 * max);
                }
                if (k % 3 != 0) {
                    three[1] = three[0];
                    three[2] = three[0];
                }
                rows[y][x] = rgba(three[0], three[1], three[2], 255);
            }
        }
        if (k < 4) {
            blanks();
        }
        end();
    }

    private int five(int bits) {
        return (510 * (bits % 32) + 31) / 62;
    }

    private int used;
    private int[] colours;

    private int colour(int index, int place) {
        check(index < used, 6, place);
        return colours[index];
    }

    private void bmp() {
        int n = file.length;
        check(u1(0) == 'B', 2, 0);
        check(u1(1) == 'M', 2, 1);
        check(low(2, 4) == n, 2, 2);
        check(low(6, 4) == 0, 2, 6);
        long offset = low(10, 4);
        check(low(14, 4) == 40, 2, 14);
        int width = (int) low(18, 4);
        check(width >= 1, 2, 18);
        int height = (int) low(22, 4);
        check(height != 0, 2, 22);
        size(width, Math.abs((long) height), 22);
        check(low(26, 2) == 1, 2, 26);
        int bits = (int) low(28, 2);
        check(bits == 1 || bits == 4 || bits == 8 || bits == 16 || bits == 24 || bits == 32, 2, 28);
        long compression = low(30, 4);
        check(compression == 0 || height > 0 && (compression == 1 && bits == 8 || compression == 2 && bits == 4),
            2, 30);
        long size = low(34, 4);
        low(38, 4);
        low(42, 4);
        long many = low(46, 4);
        int most = bits > 8 ? 0 : 1 << bits;
        check(many <= most, 2, 46);
        used = many == 0 ? most : (int) many;
        low(50, 4);
        check(offset >= 54 + 4 * used && offset <= n, 2, 10);
        check(size == n - offset || size == 0 && compression == 0, 2, 34);
        colours = new int[used];
        for (int i = 0; i < used; i++) {
            colours[i] = rgba(u1(56 + 4 * i), u1(55 + 4 * i), u1(54 + 4 * i), 255);
        }
        p = (int) offset;
        if (compression == 0) {
            bmpRows(width, bits, height < 0);
        } else {
            bmpPairs(width, bits);
        }
        end();
        tell(bits, (int) compression, used);
    }

    private void bmpRows(int width, int bits, boolean down) {
        int length = (width * bits + 31) / 32 * 4;
        for (int k = 0; k < rows.length; k++) {
            int[] row = rows[down ? k : rows.length - 1 - k];
            for (int x = 0; x < width; x++) {
                int at = p + x * bits / 8;
                if (bits <= 8) {
                    int right = 8 - bits - x * bits % 8;
                    row[x] = colour((u1(at) >> right) % (1 << bits), at);
                } else if (bits == 16) {
                    int v = (int) low(at, 2);
                    row[x] = rgba(five(v / 1024), five(v / 32), five(v), 255);
                } else {
                    low(at, bits / 8);
                    row[x] = rgba(u1(at + 2), u1(at + 1), u1(at), 255);
                }
            }
            low(p, length);
            p += length;
        }
    }

    private void bmpPairs(int width, int bits) {
        for (int[] row : rows) {
            java.util.Arrays.fill(row, colours[0]);
        }
        int x = 0;
        int up = 0;
        while (true) {
            int c = (int) (low(p, 2) % 256);
            int d = u1(p + 1);
            int at = p;
            p += 2;
            if (c == 0 && d == 1) {
                return;
            }
            if (c == 0 && d == 0) {
                check(up < rows.length, 4, at);
                x = 0;
                up++;
                continue;
            }
            if (c == 0 && d == 2) {
                low(p, 2);
                x += u1(p);
                up += u1(p + 1);
                p += 2;
                check(x <= width && up < rows.length, 4, at);
                continue;
            }
            int many = c == 0 ? d : c;
            check(up < rows.length && x + many <= width, 4, at);
            for (int k = 0; k < many; k++) {
                int where = c > 0 ? at + 1 : bits == 8 ? p + k : p + k / 2;
                int b = u1(where);
                int index = bits == 8 ? b : k % 2 == 0 ? b / 16 : b % 16;
                rows[rows.length - 1 - up][x] = colour(index, where);
                x++;
            }
            if (c == 0) {
                int length = bits == 8 ? d : (d + 1) / 2;
                length += length % 2;
                low(p, length);
                p += length;
            }
        }
    }

    private int tgaColour(int at, int deep, int alpha) {
        if (deep == 8) {
            int v = u1(at);
            return rgba(v, v, v, 255);
        }
        if (deep < 17) {
            int v = (int) low(at, 2);
            return rgba(five(v / 1024), five(v / 32), five(v), alpha == 1 && v < 32768 ? 0 : 255);
        }
        low(at, deep / 8);
        return rgba(u1(at + 2), u1(at + 1), u1(at), alpha == 8 ? u1(at + 3) : 255);
    }

    private void tga() {
        int note = u1(0);
        int map = u1(1);
        check(map < 2, 2, 1);
        int type = u1(2);
        check(type == 1 && map == 1 || type == 9 && map == 1 || type == 2 || type == 3 || type == 10 || type == 11,
            2, 2);
        int from = (int) low(3, 2);
        check(map == 1 || from == 0, 2, 3);
        int many = (int) low(5, 2);
        check(map == 1 ? many > 0 : many == 0, 2, 5);
        int deep = u1(7);
        check(map == 0 ? deep == 0 : deep == 15 || deep == 16 || deep == 24 || deep == 32, 2, 7);
        low(8, 2);
        low(10, 2);
        int width = (int) low(12, 2);
        check(width > 0, 2, 12);
        int height = (int) low(14, 2);
        check(height > 0, 2, 14);
        size(width, height, 14);
        int bits = u1(16);
        boolean direct = type == 2 || type == 10;
        check(direct ? bits == 16 || bits == 24 || bits == 32 : bits == 8, 2, 16);
        int flags = u1(17);
        int depth = type == 1 || type == 9 ? deep : bits;
        int alpha = flags % 16;
        check(flags < 64 && (alpha == 0 || alpha == 8 && depth == 32 || alpha == 1 && depth == 16), 2, 17);
        int entries = 18 + note;
        low(entries, many * ((deep + 7) / 8));
        low(18, note);
        p = entries + many * ((deep + 7) / 8);
        int packets = 0;
        for (int k = 0; k < height; k++) {
            int[] row = rows[(flags & 32) == 0 ? height - 1 - k : k];
            int[] line = new int[width];
            int x = 0;
            while (x < width) {
                int times = width;
                boolean like = false;
                if (type > 3) {
                    int b = u1(p);
                    like = b >= 128;
                    times = b % 128 + 1;
                    check(x + times <= width, 4, p);
                    packets++;
                    p++;
                }
                for (int t = 0; t < times; t++) {
                    int v;
                    if (t > 0 && like) {
                        v = line[x - 1];
                    } else if (type % 8 == 1) {
                        int index = u1(p) - from;
                        check(index >= 0 && index < many, 6, p);
                        v = tgaColour(entries + index * ((deep + 7) / 8), deep, alpha);
                        p++;
                    } else {
                        v = tgaColour(p, bits, alpha);
                        p += bits / 8;
                    }
                    line[x] = v;
                    x++;
                }
            }
            for (x = 0; x < width; x++) {
                row[(flags & 16) == 0 ? x : width - 1 - x] = line[x];
            }
        }
        String rest = new String(file, p, file.length - p, java.nio.charset.StandardCharsets.ISO_8859_1);
        check(rest.isEmpty() || rest.equals("\0\0\0\0\0\0\0\0TRUEVISION-XFILE.\0"), 5, p);
        tell(type, bits, packets);
    }

    private void pcx() {
        check(u1(0) == 10, 2, 0);
        int version = u1(1);
        check(version == 0 || version >= 2 && version <= 5, 2, 1);
        check(u1(2) == 1, 2, 2);
        int bits = u1(3);
        check(bits == 1 || bits == 2 || bits == 4 || bits == 8, 2, 3);
        int left = (int) low(4, 2);
        int top = (int) low(6, 2);
        int width = (int) low(8, 2) - left + 1;
        check(width > 0, 2, 8);
        int height = (int) low(10, 2) - top + 1;
        check(height > 0, 2, 10);
        size(width, height, 10);
        low(12, 2);
        low(14, 2);
        low(16, 48);
        u1(64);
        int planes = u1(65);
        check(bits == 1 && planes >= 1 && planes <= 4 || bits == 2 && planes == 1 || bits == 4 && planes == 1
            || bits == 8 && version == 5 && (planes == 1 || planes == 3), 2, 65);
        int step = (int) low(66, 2);
        check(step % 2 == 0 && 8 * step >= width * bits, 2, 66);
        low(68, 60);
        p = 128;
        int[][] lines = new int[height][planes * step];
        for (int[] line : lines) {
            int x = 0;
            while (x < line.length) {
                int b = u1(p);
                if (b < 192) {
                    line[x] = b;
                    x++;
                    p++;
                    continue;
                }
                int times = b - 192;
                check(times > 0 && x + times <= line.length, 4, p);
                java.util.Arrays.fill(line, x, x + times, u1(p + 1));
                x += times;
                p += 2;
            }
        }
        int table = 16;
        if (bits == 8 && planes == 1) {
            check(u1(p) == 12, 2, p);
            low(p + 1, 768);
            table = p + 1;
            p += 769;
        }
        end();
        for (int y = 0; y < height; y++) {
            for (int x = 0; x < width; x++) {
                int[] parts = new int[4];
                int index = 0;
                for (int k = 0; k < planes; k++) {
                    int b = lines[y][k * step + x * bits / 8];
                    parts[k] = (b >> 8 - bits - x * bits % 8) % (1 << bits);
                    index += parts[k] << k;
                }
                if (bits == 8 && planes == 3) {
                    rows[y][x] = rgba(parts[0], parts[1], parts[2], 255);
                } else if (bits == 1 && planes == 1) {
                    rows[y][x] = index == 1 ? -1 : 255;
                } else {
                    int at = table + 3 * index;
                    rows[y][x] = rgba(u1(at), u1(at + 1), u1(at + 2), 255);
                }
            }
        }
        tell(bits, planes, step);
    }
}
