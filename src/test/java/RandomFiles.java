import java.util.Arrays;
import java.util.Random;

/** Files of the five families, most of them right, some of them spoilt, from a seed that is always the same. */
final class RandomFiles {
    private final Random random;

    RandomFiles(Random random) {
        this.random = random;
    }

    private int below(int n) {
        return random.nextInt(n);
    }

    private boolean seldom() {
        return below(60) == 0;
    }

    private int of(int... values) {
        return values[below(values.length)];
    }

    byte[] file(int family) {
        byte[] file = whole(family);
        int spoilt = below(3);
        for (int k = 0; k < spoilt && file.length > 0; k++) {
            file = spoil(file);
        }
        if (family == 2 && spoilt > 0 && file.length > 38 && below(5) > 0) {
            file = Bytes.with(file, 2, file.length, file.length >> 8, 0, 0);
            int size = file.length - (file[10] & 255) - (file[11] & 255) * 256;
            if (size >= 0 && below(5) > 0) {
                file = Bytes.with(file, 34, size, size >> 8, 0, 0);
            }
        }
        return file;
    }

    byte[] whole(int family) {
        switch (family) {
            case 0: return qoi();
            case 1: return pnm();
            case 2: return bmp();
            case 3: return tga();
            default: return pcx();
        }
    }

    private byte[] spoil(byte[] file) {
        int at = below(4) == 0 ? below(Math.min(file.length, 70)) : below(file.length);
        byte[] head = Arrays.copyOf(file, at);
        byte[] tail = Arrays.copyOfRange(file, at, file.length);
        switch (below(6)) {
            case 0: return head;
            case 1: return new Bytes().add(file).add(of(0, 1, 10, 32, 35, 48, 255)).file();
            case 2: return new Bytes().add(head).add(below(256)).add(tail).file();
            case 3: return new Bytes().add(head).add(Arrays.copyOfRange(tail, 1, tail.length)).file();
            case 4: return Bytes.with(file, at, file[at] + of(-1, 1));
            default: return Bytes.with(file, at, of(0, 1, 2, 3, 4, 8, 16, 24, 32, 64, 128, 192, 255, below(256)));
        }
    }

    /** WIDTH and HEIGHT, small ones most often, seldom more than 4096 PIXELS. */
    private int[] size() {
        if (seldom()) {
            return new int[] {of(1, 64, 4096, 4097, 65, 2), of(1, 64, 63, 65, 2)};
        }
        return new int[] {1 + below(of(3, 9, 20)), 1 + below(of(2, 5))};
    }

    private byte[] qoi() {
        int[] size = size();
        int total = size[0] * size[1];
        Bytes out = new Bytes().text("qoif").high4(size).add(of(3, 4), of(0, 1));
        int done = 0;
        int before = -1;
        for (int chunks = 0; done < total && chunks < 200; chunks++) {
            int kind = below(8);
            int times = 1;
            int b;
            if (kind == 0) {
                b = 254;
                out.add(b, below(256), below(256), below(256));
            } else if (kind == 1) {
                b = 255;
                out.add(b, below(256), below(256), below(256), of(0, 255, below(256)));
            } else if (kind == 2) {
                b = below(64);
                b = b == before && !seldom() ? (b + 1) % 64 : b;
                out.add(b);
            } else if (kind < 5) {
                b = 64 + below(64);
                out.add(b);
            } else if (kind < 7) {
                b = 128 + below(64);
                out.add(b, below(256));
            } else {
                times = Math.min(seldom() ? 62 : total - done, 1 + below(total > 1000 ? 62 : 4));
                b = 191 + times;
                out.add(b);
            }
            before = b;
            done += times;
        }
        return out.times(7, 0).add(1).file();
    }

    private String gap() {
        StringBuilder all = new StringBuilder();
        int many = 1 + below(of(1, 1, 3));
        for (int k = 0; k < many; k++) {
            all.append(below(6) == 0 ? "#" + of(1, 12, 35) + "x\n" : "" + (char) of(32, 10, 9, 11, 12, 13, 32));
        }
        return all.toString();
    }

    private String number(int v) {
        return (below(10) == 0 ? "00" : "") + v;
    }

    private byte[] pnm() {
        int k = 1 + below(6);
        int[] size = size();
        int max = of(1, 2, 255, 255, 256, 1000, 65535, 1 + below(65535), 15);
        if (seldom()) {
            max = of(0, 65536, 1000001);
        }
        Bytes out = new Bytes().text("P" + k + gap() + number(size[0]) + gap() + number(size[1]));
        if (k % 3 != 1) {
            out.text(gap() + number(max));
        }
        if (k > 3) {
            out.add(of(32, 10, 9, 11, 12, 13));
        }
        int samples = Math.min(size[0] * size[1], 300) * (k % 3 == 0 ? 3 : 1);
        if (k == 4) {
            samples = (size[0] + 7) / 8 * size[1];
        }
        for (int i = 0; i < samples; i++) {
            int v = below(Math.max(1, max + 1)) + (below(200) == 0 ? 1 : 0);
            if (k == 1) {
                out.text((i == 0 || below(3) == 0 ? gap() : "") + (below(300) == 0 ? 2 : below(2)));
            } else if (k == 4) {
                out.add(below(256));
            } else if (k < 4) {
                out.text(gap() + number(v));
            } else if (max < 256) {
                out.add(v);
            } else {
                out.add(v >> 8, v);
            }
        }
        if (k < 4 && below(2) == 0) {
            out.text(gap() + (below(3) == 0 ? "#end" : ""));
        }
        return out.file();
    }

    private byte[] bmp() {
        int bits = of(1, 4, 8, 16, 24, 32, 4, 8);
        int compression = bits == 8 ? below(2) : bits == 4 ? 2 * below(2) : 0;
        int[] size = size();
        int most = bits <= 8 ? 1 << bits : 0;
        int used = most == 0 ? 0 : below(3) == 0 ? 0 : 1 + below(Math.min(most, 20));
        int colours = used == 0 ? most : used;
        Bytes data = compression == 0 ? bmpRows(size, bits, colours) : bmpPairs(size, bits, colours);
        int slack = below(5) == 0 ? below(6) : 0;
        int offset = 54 + 4 * colours + slack;
        int length = data.file().length;
        int height = compression == 0 && below(3) == 0 ? -size[1] : size[1];
        int told = compression == 0 && below(4) == 0 ? 0 : length;
        Bytes out = new Bytes().text("BM").low4(offset + length, 0, offset, 40, size[0], height).low2(1, bits)
            .low4(compression, told, below(9), below(9), used, below(9));
        for (int i = 0; i < colours; i++) {
            out.add(below(256), below(256), below(256), below(2));
        }
        return out.times(slack, 7).add(data.file()).file();
    }

    private Bytes bmpRows(int[] size, int bits, int colours) {
        Bytes data = new Bytes();
        int length = (size[0] * bits + 31) / 32 * 4;
        for (int i = 0; i < length * Math.min(size[1], 40); i++) {
            if (bits == 8) {
                data.add(below(colours) + (below(300) == 0 ? 1 : 0));
            } else if (bits == 4) {
                data.add(below(colours) * 16 + below(colours));
            } else if (bits == 1 && colours == 1) {
                data.add(0);
            } else {
                data.add(below(256));
            }
        }
        return data;
    }

    private int bmpIndex(int bits, int colours) {
        int extra = below(150) == 0 ? 1 : 0;
        return bits == 8 ? below(colours) + extra : (below(colours) + extra) * 16 + below(colours);
    }

    private Bytes bmpPairs(int[] size, int bits, int colours) {
        Bytes data = new Bytes();
        int x = 0;
        int y = 0;
        int many = below(14);
        for (int k = 0; k < many; k++) {
            int left = size[0] - x + (below(40) == 0 ? 1 : 0);
            int kind = below(6);
            if (kind < 2 && left > 0) {
                int c = 1 + below(Math.min(left, 255));
                data.add(c, bmpIndex(bits, colours));
                x += c;
            } else if (kind < 4 && left > 2) {
                int d = 3 + below(Math.min(left, 255) - 2);
                data.add(0, d);
                int length = bits == 8 ? d : (d + 1) / 2;
                for (int i = 0; i < length; i++) {
                    data.add(bmpIndex(bits, colours));
                }
                data.times(length % 2, 9);
                x += d;
            } else if (kind == 4 && y + 1 < size[1] || seldom()) {
                data.add(0, 0);
                x = 0;
                y++;
            } else if (y < size[1]) {
                int right = below(Math.max(left, 0) + 1);
                int up = below(size[1] - y + (seldom() ? 1 : 0));
                data.add(0, 2, right, up);
                x += right;
                y += up;
            }
        }
        return data.add(0, 1);
    }

    private byte[] tga() {
        int type = of(1, 2, 3, 9, 10, 11);
        boolean indexed = type % 8 == 1;
        boolean map = indexed || below(4) == 0;
        int from = map ? of(0, 0, 1, below(250), 255) : 0;
        int many = map ? 1 + below(of(1, 5, 30)) : 0;
        int deep = map ? of(15, 16, 24, 32) : 0;
        int bits = type % 8 == 2 ? of(16, 24, 32) : 8;
        int depth = indexed ? deep : bits;
        int alpha = depth == 32 ? of(0, 8) : depth == 16 ? of(0, 1) : 0;
        int[] size = size();
        int note = below(4) == 0 ? below(9) : 0;
        Bytes out = new Bytes().add(note, map ? 1 : 0, type).low2(from, many).add(deep).low2(below(9), below(9))
            .low2(size).add(bits, of(0, 16, 32, 48) + alpha).times(note, 77);
        for (int i = 0; i < many * ((deep + 7) / 8); i++) {
            out.add(below(256));
        }
        for (int y = 0; y < Math.min(size[1], 40); y++) {
            int x = 0;
            while (x < size[0]) {
                int times = size[0];
                boolean like = false;
                if (type > 8) {
                    times = 1 + below(Math.min(128, size[0] - x) + (below(100) == 0 ? 1 : 0));
                    times = Math.min(times, 128);
                    like = below(2) == 0;
                    out.add(times - 1 + (like ? 128 : 0));
                }
                for (int k = 0; k < (like ? 1 : Math.min(times, 300)); k++) {
                    if (indexed) {
                        out.add(from + below(many) + (below(200) == 0 ? 1 : 0));
                    } else {
                        for (int b = 0; b < bits / 8; b++) {
                            out.add(below(256));
                        }
                    }
                }
                x += times;
            }
        }
        if (below(3) == 0) {
            out.times(8, 0).text("TRUEVISION-XFILE.").add(0);
        }
        return out.file();
    }

    private byte[] pcx() {
        int bits = of(1, 1, 2, 4, 8, 8);
        int planes = bits == 1 ? 1 + below(4) : bits == 8 ? of(1, 3, 3) : 1;
        int version = bits == 8 ? 5 : of(0, 2, 3, 4, 5);
        int[] size = size();
        int left = of(0, 0, below(100));
        int top = of(0, 0, below(100));
        int step = (size[0] * bits + 7) / 8;
        step += step % 2 + (below(3) == 0 ? 2 * below(4) : 0);
        Bytes out = new Bytes().add(10, version, 1, bits)
            .low2(left, top, left + size[0] - 1, top + size[1] - 1, below(99), below(99));
        for (int i = 0; i < 48; i++) {
            out.add(below(256));
        }
        out.add(below(3), planes).low2(step).times(60, below(3));
        for (int y = 0; y < Math.min(size[1], 40); y++) {
            int x = 0;
            int length = planes * step;
            while (x < length) {
                int most = Math.min(63, length - x + (below(150) == 0 ? 1 : 0));
                if (below(2) == 0) {
                    int times = 1 + below(most);
                    out.add(192 + times, below(256));
                    x += times;
                } else {
                    out.add(below(192));
                    x++;
                }
            }
        }
        if (bits == 8 && planes == 1) {
            out.add(12);
            for (int i = 0; i < 768; i++) {
                out.add(below(256));
            }
        }
        return out.file();
    }
}
