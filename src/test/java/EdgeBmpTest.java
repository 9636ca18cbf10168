/** Each sentence of family 2 that names a bound: the last that is taken, the first that is not. */
public final class EdgeBmpTest {
    private static final int BMP = 2;
    private static final int MIN = Integer.MIN_VALUE;
    private static final int MAX = Integer.MAX_VALUE;

    public static void main(String[] args) {
        fixedFields();
        widths();
        heights();
        pixels();
        bits();
        compressions();
        anyFields();
        usedColours();
        offsets();
        sizes();
        offsetAndSizeComeLast();
        rowsFilledUp();
        indicesWithoutColour();
        fiveBits();
        likePixels();
        unlikePixels();
        unlikeFillings();
        rowsUp();
        moves();
        ends();
        ordersOfFaults();
        notComeTo();
        cuts();
        facts();
        Check.finish("EdgeBmpTest");
    }

    private static byte[] file(int width, int height, int bits, int compression, int used, int... data) {
        return MadeFiles.bmp(width, height, bits, compression, used, data);
    }

    private static int colour(int i) {
        return MadeFiles.bmpColour(i);
    }

    private static int[] repeat(int many, int v) {
        return MadeFiles.repeat(many, v);
    }

    private static int[] joined(int[]... parts) {
        return MadeFiles.joined(parts);
    }

    private static byte[] with4(byte[] file, int place, int v) {
        return Bytes.with(file, place, v, v >> 8, v >> 16, v >> 24);
    }

    private static byte[] cut(byte[] file, int n) {
        return java.util.Arrays.copyOf(file, n);
    }

    private static void taken(String name, byte[] file, int width, int... pixels) {
        Check.taken(name, BMP, file, width, pixels);
    }

    private static void refused(String name, byte[] file, int fault, int place) {
        Check.refused(name, BMP, file, fault, place);
    }

    /** "the signs BM (two fields); 2: n; 6: 0; .. 14: 40; .. 26 (2 bytes): 1": each byte of them. */
    private static void fixedFields() {
        byte[] file = file(1, 1, 24, 0, 0, 1, 2, 3, 4);
        int[][] fields = {{0, 1}, {1, 1}, {2, 4}, {6, 4}, {14, 4}, {26, 2}};
        for (int[] field : fields) {
            for (int k = 0; k < field[1]; k++) {
                int place = field[0] + k;
                Check.eachValue("place " + place, BMP, file, place, 2, field[0], file[place] & 255);
            }
        }
        refused("n of one less", with4(file, 2, 57), 2, 2);
        refused("n of one more", with4(file, 2, 59), 2, 2);
        refused("n of 0", with4(file, 2, 0), 2, 2);
        refused("n below 0", with4(file, 2, MIN | 58), 2, 2);
        refused("39", with4(file, 14, 39), 2, 14);
        refused("41", with4(file, 14, 41), 2, 14);
    }

    /** "18: WIDTH, an int from 1 on". */
    private static void widths() {
        byte[] file = file(1, 1, 24, 0, 0, 1, 2, 3, 4);
        taken("width 1", file, 1, 0x030201FF);
        for (int width : new int[] {0, -1, MIN, -4096}) {
            refused("width " + width, with4(file, 18, width), 2, 18);
            refused("width " + width + ", height 0", with4(with4(file, 18, width), 22, 0), 2, 18);
        }
        refused("width 2^31 - 1", with4(file, 18, MAX), 3, 22);
        refused("width 2^31 - 1, height 0", with4(with4(file, 18, MAX), 22, 0), 2, 22);
    }

    /** "22: HEIGHT, an int, not 0 (below 0: -HEIGHT rows, the top one first; else the bottom one first)". */
    private static void heights() {
        taken("1", file(1, 1, 24, 0, 0, 1, 2, 3, 4), 1, 0x030201FF);
        taken("-1", file(1, -1, 24, 0, 0, 1, 2, 3, 4), 1, 0x030201FF);
        taken("2", file(1, 2, 24, 0, 0, 1, 2, 3, 4, 5, 6, 7, 8), 1, 0x070605FF, 0x030201FF);
        taken("-2", file(1, -2, 24, 0, 0, 1, 2, 3, 4, 5, 6, 7, 8), 1, 0x030201FF, 0x070605FF);
        refused("0", file(1, 0, 24, 0, 0, 1, 2, 3, 4), 2, 22);
        for (int height : new int[] {MIN, MIN + 1, MAX, 4097, -4097, 65536, -65536}) {
            refused("height " + height, file(1, height, 24, 0, 0, 1, 2, 3, 4), 3, 22);
            refused("height " + height + ", width 4096", file(4096, height, 24, 0, 0, 1, 2, 3, 4), 3, 22);
        }
    }

    /** "3 more than 4096 PIXELS (at the HEIGHT's first byte)". */
    private static void pixels() {
        for (int[] size : new int[][] {{4096, 1}, {1, 4096}, {64, 64}, {4095, 1}, {63, 65}, {2, 2048}}) {
            int length = (size[0] + 31) / 32 * 4;
            for (int sign = -1; sign < 2; sign += 2) {
                byte[] file = file(size[0], sign * size[1], 1, 0, 0, repeat(length * size[1], 255));
                Check.sized(size[0] + " x " + sign * size[1], BMP, file, size[0], size[1], colour(1), colour(1));
            }
        }
        for (int[] size : new int[][] {{4097, 1}, {1, 4097}, {17, 241}, {64, 65}, {65, 64}, {4096, 2}, {2, 2049},
            {65536, 65536}, {MAX, MAX}, {1 << 30, 4}}) {
            refused(size[0] + " x " + size[1], file(size[0], size[1], 8, 0, 0), 3, 22);
            refused(size[0] + " x -" + size[1], file(size[0], -size[1], 8, 0, 0), 3, 22);
            refused("ahead of 26: " + size[0] + " x " + size[1], Bytes.with(file(size[0], size[1], 8, 0, 0), 26, 2), 3,
                22);
        }
    }

    /** "28 (2 bytes): BITS 1, 4, 8, 16, 24, 32". */
    private static void bits() {
        for (int bits = 0; bits < 256; bits++) {
            boolean can = bits == 1 || bits == 4 || bits == 8 || bits == 16 || bits == 24 || bits == 32;
            byte[] file = Bytes.with(file(1, 1, 24, 0, 0, 1, 2, 3, 4), 28, bits);
            if (!can) {
                refused("bits " + bits, file, 2, 28);
            } else {
                Check.sized("bits " + bits, BMP, file(1, 1, bits, 0, 0, 0, 0, 0, 0), 1, 1, bits > 8 ? 255 : colour(0),
                    bits > 8 ? 255 : colour(0));
            }
            if (bits > 0) {
                refused("bits' second byte " + bits, Bytes.with(file(1, 1, 24, 0, 0, 1, 2, 3, 4), 29, bits), 2, 28);
            }
        }
    }

    /** "30: COMPRESSION 0, or 1 with BITS 8, or 2 with BITS 4, both of these with a HEIGHT above 0". */
    private static void compressions() {
        for (int bits : new int[] {1, 4, 8, 16, 24, 32}) {
            for (int compression : new int[] {0, 1, 2, 3, 4, 255, 256, 1 << 16, 1 << 24, (1 << 24) + 1, -1, MIN, MAX}) {
                for (int height : new int[] {1, -1}) {
                    boolean pairs = height > 0 && (compression == 1 && bits == 8 || compression == 2 && bits == 4);
                    String name = "bits " + bits + ", compression " + compression + ", height " + height;
                    int[] data = compression == 0 ? new int[] {0, 0, 0, 0} : new int[] {0, 1};
                    byte[] file = file(1, height, bits, compression, 0, data);
                    if (compression == 0 || pairs) {
                        int v = bits > 8 ? 255 : colour(0);
                        Check.sized(name, BMP, file, 1, 1, v, v);
                    } else {
                        refused(name, file, 2, 30);
                    }
                }
            }
        }
        refused("a height below 0 is no fault of its own", file(1, -1, 8, 1, 0, 0, 1), 2, 30);
    }

    /** "38, 42: any; .. 50: any", and the fourth byte of a colour. */
    private static void anyFields() {
        byte[] file = file(1, 1, 8, 0, 1, 0, 0, 0, 0);
        for (int place : new int[] {38, 39, 40, 41, 42, 43, 44, 45, 50, 51, 52, 53, 57, 59, 60, 61}) {
            for (int v : new int[] {0, 1, 127, 128, 255}) {
                taken("place " + place + " of " + v, Bytes.with(file, place, v), 1, colour(0));
            }
        }
    }

    /** "46: USED: with BITS up to 8 at most 2^BITS (0: 2^BITS), else 0". */
    private static void usedColours() {
        for (int bits : new int[] {1, 4, 8}) {
            int most = 1 << bits;
            int last = (1 << bits) - 1 << 8 - bits;
            taken("all of " + bits + " bits", file(1, 1, bits, 0, most, last, 0, 0, 0), 1, colour(most - 1));
            taken("0 of " + bits + " bits", file(1, 1, bits, 0, 0, last, 0, 0, 0), 1, colour(most - 1));
            taken("one of " + bits + " bits", file(1, 1, bits, 0, 1, 0, 0, 0, 0), 1, colour(0));
            refused("one less of " + bits + " bits", file(1, 1, bits, 0, most - 1, last, 0, 0, 0), 6, 54 + 4 * most - 4);
            byte[] file = file(1, 1, bits, 0, most, 0, 0, 0, 0);
            for (int used : new int[] {most + 1, 257, 65536, 1 << 24, -1, MIN, MAX}) {
                refused("used " + used + " of " + bits + " bits", with4(file, 46, used), 2, 46);
            }
        }
        for (int bits : new int[] {16, 24, 32}) {
            byte[] file = file(1, 1, bits, 0, 0, 0, 0, 0, 0);
            taken("none of " + bits + " bits", file, 1, 255);
            for (int used : new int[] {1, 2, 256, 1 << 24, -1, MIN, MAX}) {
                refused("used " + used + " of " + bits + " bits", with4(file, 46, used), 2, 46);
            }
        }
    }

    /** "OFFSET is at least 54 + 4 * USED (of BITS up to 8) and at most n (else 2 at 10)". */
    private static void offsets() {
        for (int bits : new int[] {1, 4, 8, 16, 24, 32}) {
            for (int used : bits > 8 ? new int[] {0} : new int[] {0, 1, 2}) {
                byte[] file = with4(file(1, 1, bits, 0, used, 0, 0, 0, 0), 34, 0);
                int n = file.length;
                int least = n - 4;
                String name = "bits " + bits + ", used " + used + ": offset ";
                int v = bits > 8 ? 255 : colour(0);
                Check.sized(name + "least", BMP, file, 1, 1, v, v);
                for (int offset : new int[] {least - 1, 53, 0, -1, MIN, n + 1, MAX, 65536 + least}) {
                    refused(name + offset, with4(file, 10, offset), 2, 10);
                }
                for (int offset = least + 1; offset <= n; offset++) {
                    refused(name + offset, with4(file, 10, offset), 1, n);
                }
            }
        }
        byte[] gap = new Bytes().add(file(1, 1, 8, 0, 1)).add(9, 9, 9).add(0, 0, 0, 0).file();
        taken("a gap of three", with4(with4(with4(gap, 2, 65), 10, 61), 34, 4), 1, colour(0));
    }

    /** "SIZE is n - OFFSET, with COMPRESSION 0 also 0 (else 2 at 34)". */
    private static void sizes() {
        byte[] rows = file(1, 1, 8, 0, 1, 0, 0, 0, 0);
        byte[] pairs = file(1, 1, 8, 1, 1, 1, 0, 0, 1);
        byte[] fours = file(1, 1, 4, 2, 1, 1, 0, 0, 1);
        taken("4", rows, 1, colour(0));
        taken("0", with4(rows, 34, 0), 1, colour(0));
        taken("4 of pairs", pairs, 1, colour(0));
        taken("4 of pairs of four bits", fours, 1, colour(0));
        refused("0 of pairs", with4(pairs, 34, 0), 2, 34);
        refused("0 of pairs of four bits", with4(fours, 34, 0), 2, 34);
        for (int size : new int[] {1, 3, 5, -4, 4 + 65536, 4 + (1 << 24), MIN, MAX, -1}) {
            refused("size " + size, with4(rows, 34, size), 2, 34);
            refused("size " + size + " of pairs", with4(pairs, 34, size), 2, 34);
            refused("size " + size + " of pairs of four bits", with4(fours, 34, size), 2, 34);
        }
        byte[] none = file(1, 1, 8, 1, 1);
        refused("no data of pairs", none, 1, 58);
        refused("no data", file(1, 1, 8, 0, 1), 1, 58);
    }

    /** "Then OFFSET ..": behind the field at 50, OFFSET ahead of SIZE. */
    private static void offsetAndSizeComeLast() {
        byte[] file = file(1, 1, 24, 0, 0, 1, 2, 3, 4);
        byte[] both = with4(with4(file, 10, 53), 34, 9);
        refused("offset ahead of size", both, 2, 10);
        refused("size behind offset", with4(file, 34, 9), 2, 34);
        refused("14 ahead of offset", with4(both, 14, 39), 2, 14);
        refused("used ahead of offset", with4(both, 46, 1), 2, 46);
        for (int n = 34; n < 54; n++) {
            refused("cut to " + n + " ahead of offset", with4(cut(both, n > 38 ? n : 38), 2, n > 38 ? n : 38), 1,
                n > 38 ? n : 38);
        }
        refused("offset as soon as 50 is whole", with4(cut(both, 54), 2, 54), 2, 10);
        refused("offset behind the end", with4(with4(cut(file, 54), 2, 54), 10, 55), 2, 10);
        refused("colours that can't be there", with4(cut(file(1, 1, 8, 0, 2), 61), 2, 61), 2, 10);
    }

    /** "rows, each filled up to a multiple of four bytes (any)": one byte less, one more, and just so many. */
    private static void rowsFilledUp() {
        for (int bits : new int[] {1, 4, 8, 16, 24, 32}) {
            for (int width = 1; width <= 33; width++) {
                int length = (width * bits + 31) / 32 * 4;
                int used = (width * bits + 7) / 8;
                int v = bits > 8 ? 255 : colour(0);
                int[] row = joined(repeat(used, 0), repeat(length - used, 255));
                if (bits < 8 && width * bits % 8 != 0) {
                    row[used - 1] = 255 >> width * bits % 8;
                }
                String name = "bits " + bits + ", width " + width;
                Check.sized(name, BMP, file(width, 2, bits, 0, bits > 8 ? 0 : 1, joined(row, row)), width, 2, v, v);
                byte[] more = file(width, 2, bits, 0, 0, repeat(2 * length + 1, 0));
                refused(name + ": a byte more", more, 5, more.length - 1);
                byte[] less = file(width, 2, bits, 0, 0, repeat(2 * length - 1, 0));
                refused(name + ": a byte less", less, 1, less.length);
            }
        }
    }

    /** "6 an index without a colour .. (at its byte ..)": the last one that has a colour, the first one without. */
    private static void indicesWithoutColour() {
        for (int used = 1; used <= 16; used++) {
            int start = 54 + 4 * used;
            taken("4 bits, the last of " + used, file(2, 1, 4, 0, used, used - 1, 0, 0, 0), 2, colour(0),
                colour(used - 1));
            taken("8 bits, the last of " + used, file(2, 1, 8, 0, used, 0, used - 1, 0, 0), 2, colour(0),
                colour(used - 1));
            refused("8 bits, behind the last of " + used, file(2, 1, 8, 0, used, 0, used, 0, 0), 6, start + 1);
            if (used < 16) {
                refused("4 bits, lower, behind the last of " + used, file(2, 1, 4, 0, used, used, 0, 0, 0), 6, start);
                refused("4 bits, higher, behind the last of " + used, file(4, 1, 4, 0, used, 0, used * 16, 0, 0), 6,
                    start + 1);
            }
        }
        for (int x = 0; x < 16; x++) {
            int[] data = {0, 0, 0, 0};
            data[x / 8] = 128 >> x % 8;
            refused("1 bit, column " + x, file(16, 1, 1, 0, 1, data), 6, 58 + x / 8);
        }
        taken("1 bit, what is not asked", file(15, 1, 1, 0, 1, 0, 1, 255, 255), 15, repeat(15, colour(0)));
        refused("255 of 255", file(1, 1, 8, 0, 255, 255, 0, 0, 0), 6, 54 + 4 * 255);
        taken("255 of 256", file(1, 1, 8, 0, 256, 255, 0, 0, 0), 1, colour(255));
        refused("an index ahead of the end", file(2, 1, 8, 0, 1, 1), 6, 58);
        refused("the end ahead of an index", file(2, 1, 8, 0, 1, 0), 1, 59);
        refused("the bottom row is first", file(1, 2, 8, 0, 1, 5, 0, 0, 0, 6, 0, 0, 0), 6, 58);
    }

    /** "A 5-bit value v stands for (510 * v + 31) / 62"; "the lowest, the highest bit any". */
    private static void fiveBits() {
        int[] due = {0, 8, 16, 25, 33, 41, 49, 58, 66, 74, 82, 90, 99, 107, 115, 123, 132, 140, 148, 156, 165, 173, 181,
            189, 197, 206, 214, 222, 230, 239, 247, 255};
        for (int v = 0; v < 32; v++) {
            for (int top = 0; top < 2; top++) {
                int blue = top << 15 | v;
                int green = top << 15 | v << 5;
                int red = top << 15 | v << 10;
                taken("five bits of " + v + ", the highest " + top,
                    file(3, 1, 16, 0, 0, blue, blue >> 8, green, green >> 8, red, red >> 8, 9, 9), 3,
                    due[v] << 8 | 255, due[v] << 16 | 255, due[v] << 24 | 255);
            }
        }
    }

    /** "c above 0: c pixels of index d": as many as the row has left, "A pixel outside of the row ..: 4 at its pair". */
    private static void likePixels() {
        for (int c : new int[] {1, 2, 3, 127, 128, 254, 255}) {
            for (int bits = 4; bits <= 8; bits += 4) {
                int compression = bits == 8 ? 1 : 2;
                String name = "bits " + bits + ", c " + c;
                taken(name, file(c, 1, bits, compression, 1, c, 0, 0, 1), c, repeat(c, colour(0)));
                taken(name + " and one left", file(c + 1, 1, bits, compression, 1, c, 0, 1, 0, 0, 1), c + 1,
                    repeat(c + 1, colour(0)));
                refused(name + " behind one", file(c, 1, bits, compression, 1, 1, 0, c, 0, 0, 1), 4, 60);
                if (c > 1) {
                    refused(name + " of one less", file(c - 1, 1, bits, compression, 1, c, 0, 0, 1), 4, 58);
                    refused(name + " of one less, with rows", file(c - 1, 9, bits, compression, 1, c, 0, 0, 1), 4, 58);
                }
            }
        }
        taken("full rows", file(2, 2, 8, 1, 2, 2, 1, 0, 0, 2, 1, 0, 1), 2, colour(1), colour(1), colour(1), colour(1));
        refused("a row's end is no row's beginning", file(2, 2, 8, 1, 2, 2, 1, 2, 1, 0, 1), 4, 64);
        taken("four bits in turn", file(7, 1, 4, 2, 3, 7, 0x12, 0, 1), 7, colour(1), colour(2), colour(1), colour(2),
            colour(1), colour(2), colour(1));
    }

    /** "0, d: d indices follow": 3 up to 255. */
    private static void unlikePixels() {
        for (int d : new int[] {3, 4, 5, 6, 7, 8, 127, 128, 254, 255}) {
            int[] eight = joined(new int[] {0, d}, repeat(d + d % 2, 0), new int[] {0, 1});
            int[] four = joined(new int[] {0, d}, repeat((d + 3) / 4 * 2, 0), new int[] {0, 1});
            taken("8 bits, d " + d, file(d, 1, 8, 1, 1, eight), d, repeat(d, colour(0)));
            taken("4 bits, d " + d, file(d, 1, 4, 2, 1, four), d, repeat(d, colour(0)));
            refused("8 bits, d " + d + " of one less", file(d - 1, 1, 8, 1, 1, eight), 4, 58);
            refused("4 bits, d " + d + " of one less", file(d - 1, 1, 4, 2, 1, four), 4, 58);
            refused("8 bits, d " + d + " behind one", file(d, 1, 8, 1, 1, joined(new int[] {1, 0}, eight)), 4, 60);
            refused("8 bits, d " + d + " of one less, cut", file(d - 1, 1, 8, 1, 1, 0, d), 4, 58);
            refused("4 bits, d " + d + " of one less, cut", file(d - 1, 1, 4, 2, 1, 0, d), 4, 58);
            refused("8 bits, d " + d + ", cut", file(d, 1, 8, 1, 1, 0, d), 1, 60);
        }
        refused("0, 2 is no index", file(9, 1, 8, 1, 1, 0, 2, 0, 0, 0, 3), 1, 64);
        refused("0, 1 is no index", file(9, 1, 8, 1, 1, 0, 1, 0), 5, 60);
    }

    /** "and a byte (any) if d is odd", "filled up to an even number of bytes (any)". */
    private static void unlikeFillings() {
        for (int d = 3; d <= 12; d++) {
            int[] eight = joined(new int[] {0, d}, repeat(d, 0));
            int[] four = joined(new int[] {0, d}, repeat((d + 1) / 2, 0));
            if (d % 2 == 1) {
                four[four.length - 1] = 15;
            }
            filled("8 bits, d " + d, d, 8, eight, d % 2);
            filled("4 bits, d " + d, d, 4, four, (d + 1) / 2 % 2);
        }
    }

    private static void filled(String name, int width, int bits, int[] indices, int filling) {
        int compression = bits == 8 ? 1 : 2;
        int[] end = {0, 1};
        int at = 58 + indices.length;
        for (int v : new int[] {0, 1, 77, 255}) {
            byte[] file = file(width, 1, bits, compression, 1, joined(indices, repeat(filling, v), end));
            taken(name + ", filled by " + v, file, width, repeat(width, colour(0)));
        }
        if (filling == 1) {
            refused(name + ", the filling cut", file(width, 1, bits, compression, 1, indices), 1, at);
            refused(name + ", not filled", file(width, 1, bits, compression, 1, joined(indices, end)), 1, at + 2);
        } else {
            byte[] file = file(width, 1, bits, compression, 1, joined(indices, new int[] {0}, end));
            refused(name + ", filled though even", file, 1, at + 3);
        }
    }

    /** "0, 0: to column 0 of the row above", "in no row, and 0, 0 in no row: 4 at its pair". */
    private static void rowsUp() {
        for (int height = 1; height <= 3; height++) {
            int[] up = repeat(2 * height, 0);
            String name = "height " + height + ": ";
            int at = 58 + 2 * height;
            taken(name + "up to no row", file(1, height, 8, 1, 1, joined(up, new int[] {0, 1})), 1,
                repeat(height, colour(0)));
            refused(name + "0, 0 in no row", file(1, height, 8, 1, 1, joined(up, new int[] {0, 0, 0, 1})), 4, at);
            refused(name + "like ones in no row", file(1, height, 8, 1, 1, joined(up, new int[] {1, 0, 0, 1})), 4, at);
            refused(name + "unlike ones in no row", file(3, height, 8, 1, 1, joined(up, new int[] {0, 3})), 4, at);
            refused(name + "moved in no row", file(1, height, 8, 1, 1, joined(up, new int[] {0, 2, 0, 0, 0, 1})), 4, at);
            refused(name + "moved in no row, cut", file(1, height, 8, 1, 1, joined(up, new int[] {0, 2, 0})), 1, at + 3);
            refused(name + "the end wanted", file(1, height, 8, 1, 1, up), 1, at);
            int[] less = repeat(2 * height - 2, 0);
            byte[] file = file(1, height, 8, 1, 2, joined(less, new int[] {1, 1, 0, 1}));
            Check.sized(name + "the top row", BMP, file, 1, height, colour(1), height == 1 ? colour(1) : colour(0));
        }
        taken("to column 0", file(3, 2, 8, 1, 2, 2, 0, 0, 0, 1, 1, 0, 1), 3, colour(1), colour(0), colour(0), colour(0),
            colour(0), colour(0));
    }

    /** "x columns to the right, y rows up (fault 4 if that is right of WIDTH or in no row)". */
    private static void moves() {
        int[] end = {0, 1};
        for (int x : new int[] {0, 1, 2, 3, 4, 254, 255}) {
            for (int y : new int[] {0, 1, 2, 3, 254, 255}) {
                byte[] file = file(3, 3, 8, 1, 2, joined(new int[] {0, 2, x, y}, end));
                String name = "moved by " + x + ", " + y;
                if (x <= 3 && y <= 2) {
                    taken(name, file, 3, repeat(9, colour(0)));
                } else {
                    refused(name, file, 4, 62);
                }
            }
        }
        for (int x = 0; x < 3; x++) {
            for (int y = 0; y < 3; y++) {
                int[] due = repeat(9, colour(0));
                due[(2 - y) * 3 + x] = colour(1);
                taken("a pixel at " + x + ", " + y, file(3, 3, 8, 1, 2, 0, 2, x, y, 1, 1, 0, 1), 3, due);
                taken("four bits, at " + x + ", " + y, file(3, 3, 4, 2, 2, 0, 2, x, y, 1, 0x10, 0, 1), 3, due);
            }
        }
        refused("a pixel at column WIDTH", file(3, 3, 8, 1, 2, 0, 2, 3, 0, 1, 1, 0, 1), 4, 66);
        refused("moved twice, too far", file(3, 3, 8, 1, 2, 0, 2, 2, 0, 0, 2, 2, 0, 0, 1), 4, 66);
        taken("moved twice", file(3, 1, 8, 1, 2, 0, 2, 1, 0, 0, 2, 1, 0, 1, 1, 0, 1), 3, colour(0), colour(0), colour(1));
        taken("moved from column WIDTH by none", file(3, 2, 8, 1, 2, 3, 1, 0, 2, 0, 1, 0, 1), 3, colour(0), colour(0),
            colour(0), colour(1), colour(1), colour(1));
        refused("moved from column WIDTH by one", file(3, 2, 8, 1, 2, 3, 1, 0, 2, 1, 1, 0, 1), 4, 64);
        refused("x, y wanted", file(3, 3, 8, 1, 2, 0, 2), 1, 64);
        refused("y wanted, though x is too far", file(3, 3, 8, 1, 2, 0, 2, 255), 1, 65);
        byte[] wide = file(4096, 1, 8, 1, 2, joined(new int[0], sixteenMoves(), new int[] {0, 2, 16, 0, 0, 1}));
        Check.sized("moved to column 4096", BMP, wide, 4096, 1, colour(0), colour(0));
        refused("moved to column 4097", file(4096, 1, 8, 1, 2, joined(sixteenMoves(), new int[] {0, 2, 17, 0, 0, 1})), 4,
            62 + 64);
    }

    /** To column 4080. */
    private static int[] sixteenMoves() {
        int[] all = new int[64];
        for (int k = 0; k < 16; k++) {
            all[4 * k + 1] = 2;
            all[4 * k + 2] = 255;
        }
        return all;
    }

    /** "0, 1: the end of the DATA", "5 a byte behind the file's end (at it)". */
    private static void ends() {
        for (int b : new int[] {0, 1, 2, 255}) {
            refused("a byte behind of " + b, file(2, 1, 8, 1, 1, 0, 1, b), 5, 60);
            refused("a byte behind of " + b + ", four bits", file(2, 1, 4, 2, 1, 2, 0, 0, 1, b), 5, 62);
            refused("a byte behind rows of " + b, file(1, 1, 24, 0, 0, 1, 2, 3, 4, b), 5, 58);
        }
        refused("a pair behind", file(2, 1, 8, 1, 1, 0, 1, 0, 1), 5, 60);
        refused("all pixels without an end", file(2, 1, 8, 1, 1, 2, 0), 1, 60);
        refused("half an end", file(2, 1, 8, 1, 1, 2, 0, 0), 1, 61);
        taken("an end at once", file(2, 1, 8, 1, 1, 0, 1), 2, colour(0), colour(0));
    }

    /** "its bytes (1), whether it goes too far (4), its colour (6); how many .. of a pair behind its two." */
    private static void ordersOfFaults() {
        refused("half a pair that would go too far", file(2, 1, 8, 1, 1, 3), 1, 59);
        refused("too far ahead of a colour", file(2, 1, 8, 1, 1, 3, 9, 0, 1), 4, 58);
        refused("a colour of as many as there are", file(2, 1, 8, 1, 1, 2, 9, 0, 1), 6, 59);
        refused("too far ahead of the bytes that follow", file(2, 1, 8, 1, 1, 0, 3), 4, 58);
        refused("a colour ahead of the bytes that follow", file(3, 1, 8, 1, 1, 0, 3, 0, 1), 6, 61);
        refused("bytes that follow, of a colour each", file(3, 1, 8, 1, 1, 0, 3, 0, 0), 1, 62);
        refused("a colour of four bits, the higher", file(3, 1, 4, 2, 1, 0, 3, 0x10), 6, 60);
        refused("a colour of four bits, the lower", file(3, 1, 4, 2, 1, 0, 3, 0x01), 6, 60);
        refused("a colour of four bits, the third", file(3, 1, 4, 2, 1, 0, 3, 0x00, 0x10), 6, 61);
        refused("a colour of four bits, no fourth", file(3, 1, 4, 2, 1, 0, 3, 0x00, 0x01), 1, 62);
        refused("like ones of four bits, the lower", file(3, 1, 4, 2, 1, 2, 0x01, 0, 1), 6, 59);
        taken("like ones of four bits, one alone", file(3, 1, 4, 2, 1, 1, 0x0F, 0, 1), 3, repeat(3, colour(0)));
    }

    /** "What was not come to is colour 0." */
    private static void notComeTo() {
        taken("rows above", file(2, 3, 8, 1, 3, 2, 2, 0, 1), 2, colour(0), colour(0), colour(0), colour(0), colour(2),
            colour(2));
        taken("the rest of a row", file(3, 1, 4, 2, 3, 1, 0x20, 0, 1), 3, colour(2), colour(0), colour(0));
        RasterMint x = new RasterMint();
        Check.tape(x, file(3, 1, 24, 0, 0, repeat(12, 99)));
        x.read(BMP, 0);
        Check.tape(x, file(3, 1, 24, 0, 0, repeat(12, 98)));
        x.read(BMP, 0);
        Check.tape(x, file(3, 1, 8, 1, 1, 0, 1));
        Check.due("behind other files", x.read(BMP, 0), 0);
        Check.due("nothing of them", x.pixel(0, 2, 0), colour(0));
        Check.due("nothing of them", x.raster(0, 2), 1);
    }

    /** "1 a byte is wanted where the end is (place n)": n is told at place 2, so it is put right first. */
    private static void cuts() {
        byte[][] files = {file(2, 2, 24, 0, 0, repeat(16, 1)), file(3, 1, 8, 0, 1, repeat(4, 0)),
            file(3, 1, 8, 1, 1, 0, 3, 0, 0, 0, 0, 0, 1), file(4, 1, 4, 2, 1, 2, 0, 1, 0, 0, 2, 0, 0, 0, 1)};
        for (int k = 0; k < files.length; k++) {
            int offset = files[k][10];
            for (int n = 0; n < files[k].length; n++) {
                byte[] file = cut(files[k], n);
                if (n >= 6) {
                    file = with4(file, 2, n);
                }
                if (n >= 38 && n >= offset) {
                    file = with4(file, 34, n - offset);
                }
                boolean short4 = n >= 54 && n < offset;
                refused("file " + k + " cut to " + n, file, short4 ? 2 : 1, short4 ? 10 : n);
            }
        }
    }

    /** "BMP BITS, COMPRESSION, colours". */
    private static void facts() {
        for (int bits : new int[] {1, 4, 8}) {
            int most = 1 << bits;
            Check.told("0 of " + bits, BMP, file(1, 1, bits, 0, 0, 0, 0, 0, 0), bits, 0, most);
            Check.told("one of " + bits, BMP, file(1, 1, bits, 0, 1, 0, 0, 0, 0), bits, 0, 1);
            Check.told("all of " + bits, BMP, file(1, 1, bits, 0, most, 0, 0, 0, 0), bits, 0, most);
        }
        for (int bits : new int[] {16, 24, 32}) {
            Check.told(bits + " bits", BMP, file(1, 1, bits, 0, 0, 0, 0, 0, 0), bits, 0, 0);
        }
        Check.told("pairs of 8 bits", BMP, file(1, 1, 8, 1, 9, 0, 1), 8, 1, 9);
        Check.told("pairs of 4 bits", BMP, file(1, 1, 4, 2, 9, 0, 1), 4, 2, 9);
    }
}
