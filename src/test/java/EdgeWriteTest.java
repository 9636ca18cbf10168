import java.util.Arrays;

/** Each sentence of WRITING that names a bound, by the file that is due, byte by byte. */
public final class EdgeWriteTest {
    private static final int B = 0x000000FF;
    private static final int W = 0xFFFFFFFF;
    private static final int R = 0x010203FF;

    public static void main(String[] args) {
        qoiRuns();
        qoiRunsAtPlaces();
        qoiSmallSteps();
        qoiLargeSteps();
        qoiRound();
        qoiAlphas();
        qoiPlaces();
        qoiChannels();
        seventySigns();
        bitsOfRows();
        numbersOfTexts();
        sidesOfTexts();
        bmpFillings();
        bmpPairs();
        bmpRows();
        bmpColours();
        tgaLikePackets();
        tgaUnlikePackets();
        tgaMixedPackets();
        tgaRows();
        tgaColours();
        pcxRuns();
        pcxBytes();
        pcxSteps();
        pcxColours();
        highSides();
        allSizesComeBack();
        Check.finish("EdgeWriteTest");
    }

    private static int rgba(int red, int green, int blue, int alpha) {
        return MadeFiles.rgba(red, green, blue, alpha);
    }

    private static int[] repeat(int many, int v) {
        return MadeFiles.repeat(many, v);
    }

    private static int[] joined(int[]... parts) {
        return MadeFiles.joined(parts);
    }

    private static RasterMint shelved(int width, int... pixels) {
        RasterMint x = new RasterMint();
        x.make(0, width, pixels.length / width, pixels[0]);
        for (int i = 0; i < pixels.length; i++) {
            if (pixels[i] != pixels[0]) {
                x.dot(0, i % width, i / width, pixels[i]);
            }
        }
        return x;
    }

    private static void written(String name, int form, Bytes file, int width, int... pixels) {
        RasterMint x = shelved(width, pixels);
        byte[] due = file.file();
        Check.due(name + ": how many", x.write(0, form), due.length);
        byte[] got = Check.output(x);
        Check.due(name + ": its length", got.length, due.length);
        for (int i = 0; i < due.length && i < got.length; i++) {
            if (got[i] != due[i]) {
                Check.due(name + ": byte " + i, got[i] & 255, due[i] & 255);
                return;
            }
        }
    }

    private static int[] grays(int many) {
        int[] all = new int[many];
        for (int k = 0; k < many; k++) {
            all[k] = k % 191 * 0x01010100 + 255;
        }
        return all;
    }

    private static Bytes qoi(int width, int height, int channels, int... chunks) {
        return MadeFiles.qoi(width, height, channels).add(chunks).times(7, 0).add(1);
    }

    /** "of as many pixels like P as there are from here on (62 at most) a run". */
    private static void qoiRuns() {
        for (int many = 1; many <= 62; many++) {
            written("a run of " + many, 0, qoi(many, 1, 3, 191 + many), many, repeat(many, B));
        }
        for (int many = 63; many <= 124; many++) {
            written("a run of " + many, 0, qoi(many, 1, 3, 253, 191 + many - 62), many, repeat(many, B));
        }
        written("a run of 125", 0, qoi(125, 1, 3, 253, 253, 192), 125, repeat(125, B));
        written("a run over rows", 0, qoi(1, 62, 3, 253), 1, repeat(62, B));
        written("a run over rows and one more", 0, qoi(1, 63, 3, 253, 192), 1, repeat(63, B));
    }

    private static void qoiRunsAtPlaces() {
        written("62 behind one", 0, qoi(63, 1, 3, 254, 100, 0, 0, 253), 63, repeat(63, 0x640000FF));
        written("63 behind one", 0, qoi(64, 1, 3, 254, 100, 0, 0, 253, 192), 64, repeat(64, 0x640000FF));
        int[] ended = joined(repeat(63, B), new int[] {0x010101FF});
        written("63 and another", 0, qoi(64, 1, 3, 253, 192, 127), 64, ended);
        ended = joined(repeat(62, B), new int[] {0x010101FF});
        written("62 and another", 0, qoi(63, 1, 3, 253, 127), 63, ended);
    }

    /** "64 .. 127": each of red, green, blue more by -2 .. 1. */
    private static void qoiSmallSteps() {
        for (int part = 0; part < 3; part++) {
            for (int more = -4; more <= 3; more++) {
                int[] to = {100, 100, 100};
                to[part] += more;
                int[] steps = {0, 0, 0};
                steps[part] = more;
                int[] chunk = {64 | steps[0] + 2 << 4 | steps[1] + 2 << 2 | steps[2] + 2};
                if (more == 0) {
                    chunk = new int[] {192};
                } else if (more < -2 || more > 1) {
                    int green = steps[1];
                    chunk = new int[] {160 + green, steps[0] - green + 8 << 4 | steps[2] - green + 8};
                }
                written("part " + part + " more by " + more, 0, qoi(2, 1, 3, joined(new int[] {254, 100, 100, 100}, chunk)),
                    2, 0x646464FF, rgba(to[0], to[1], to[2], 255));
            }
        }
    }

    /** "128 .. 191": green more by -32 .. 31, red and blue less green by -8 .. 7. */
    private static void qoiLargeSteps() {
        for (int green : new int[] {-34, -33, -32, -31, -3, 2, 30, 31, 32, 33}) {
            for (int red : new int[] {-10, -9, -8, -7, 0, 6, 7, 8, 9}) {
                for (int blue : new int[] {-9, -8, 0, 7, 8}) {
                    int r = 100 + green + red;
                    int g = 100 + green;
                    int b = 100 + green + blue;
                    boolean can = green >= -32 && green < 32 && red >= -8 && red < 8 && blue >= -8 && blue < 8;
                    boolean small = isSmall(green) && isSmall(green + red) && isSmall(green + blue);
                    int[] chunk = can ? new int[] {160 + green, red + 8 << 4 | blue + 8} : new int[] {254, r, g, b};
                    if (small) {
                        continue;
                    }
                    written("green by " + green + ", red by " + red + ", blue by " + blue, 0,
                        qoi(2, 1, 3, joined(new int[] {254, 100, 100, 100}, chunk)), 2, 0x646464FF, rgba(r, g, b, 255));
                }
            }
        }
    }

    private static boolean isSmall(int more) {
        return more >= -2 && more < 2;
    }

    /** "(how much more: as -128 .. 127, red's and blue's less green's, too, round)". */
    private static void qoiRound() {
        written("from 0 to 254", 0, qoi(1, 1, 3, 64), 1, 0xFEFEFEFF);
        written("from 0 to 253", 0, qoi(1, 1, 3, 160 - 3, 0x88), 1, 0xFDFDFDFF);
        written("from 0 to 224", 0, qoi(1, 1, 3, 128, 0x88), 1, 0xE0E0E0FF);
        written("from 0 to 223", 0, qoi(1, 1, 3, 254, 223, 223, 223), 1, 0xDFDFDFFF);
        written("from 255 to 1", 0, qoi(2, 1, 3, 85, 160 + 2, 0x88), 2, W, 0x010101FF);
        written("from 255 to 30", 0, qoi(2, 1, 3, 85, 191, 0x88), 2, W, 0x1E1E1EFF);
        written("from 255 to 31", 0, qoi(2, 1, 3, 85, 254, 31, 31, 31), 2, W, 0x1F1F1FFF);
        // Green is -124 more, that is too far, though red's 124 less that is round -8.
        written("green by -124", 0, qoi(1, 1, 3, 254, 124, 132, 132), 1, rgba(124, 132, 132, 255));
        // Red is -121 more, less green's 31 that is -152, round 104.
        written("red round by 104", 0, qoi(1, 1, 3, 254, 135, 31, 31), 1, rgba(135, 31, 31, 255));
        // Red is 88 more, less green's -32 that is 120.
        written("red less green of 120", 0, qoi(1, 1, 3, 254, 88, 224, 224), 1, rgba(88, 224, 224, 255));
        written("blue less green of -8", 0, qoi(1, 1, 3, 160 + 3, 0x80), 1, rgba(3, 3, -5, 255));
        written("blue less green of 7", 0, qoi(1, 1, 3, 160 - 3, 0x8F), 1, rgba(-3, -3, 4, 255));
    }

    /** "if its alpha is P's: ..; 255". */
    private static void qoiAlphas() {
        written("alpha 254", 0, qoi(1, 1, 4, 255, 0, 0, 0, 254), 1, 0x000000FE);
        written("alpha 0 of another", 0, qoi(1, 1, 4, 255, 0, 0, 1, 0), 1, 0x00000100);
        written("an alpha that is P's", 0, qoi(2, 1, 4, 255, 1, 1, 1, 7, 127), 2, 0x01010107, 0x02020207);
        written("an alpha that is P's, far", 0, qoi(2, 1, 4, 255, 1, 1, 1, 7, 254, 90, 9, 9), 2, 0x01010107, 0x5A090907);
        written("an alpha of one more", 0, qoi(2, 1, 4, 255, 1, 1, 1, 7, 255, 1, 1, 1, 8), 2, 0x01010107, 0x01010108);
    }

    /** "the PLACE's chunk if the pixel stands at its own PLACE": behind a run, ahead of all else. */
    private static void qoiPlaces() {
        written("0, 0, 0, 0 stands at first", 0, qoi(1, 1, 4, 0), 1, 0);
        written("black does not stand at first", 0, qoi(2, 1, 3, 127, 64 + 16 + 4 + 1), 2, 0x010101FF, B);
        written("black stands behind a run, and ahead of 64 .. 127", 0, qoi(3, 1, 3, 192, 127, 53), 3, B, 0x010101FF, B);
        int place = (3 + 10 + 21 + 2805) % 64;
        written("a place ahead of 128 .. 191", 0, qoi(3, 1, 3, 160 + 2, 0x79, 160 - 2, 0x97, place), 3, R, B, R);
        // 64 more of red stands at the same PLACE, and in its place.
        int other = rgba(0x41, 2, 3, 255);
        written("a place that another one took", 0, qoi(3, 1, 3, 160 + 2, 0x79, 254, 0x41, 2, 3, 254, 1, 2, 3), 3, R,
            other, R);
        written("places go by alphas, too", 0, qoi(3, 1, 4, 255, 9, 9, 9, 1, 255, 9, 9, 9, 2, (15 * 9 + 11) % 64), 3,
            0x09090901, 0x09090902, 0x09090901);
    }

    /** "channels 3 if it is OPAQUE, else 4." */
    private static void qoiChannels() {
        written("opaque", 0, qoi(2, 1, 3, 193), 2, B, B);
        written("the last one is not", 0, qoi(2, 1, 4, 192, 255, 0, 0, 0, 254), 2, B, 0x000000FE);
        written("the first one is not", 0, qoi(2, 1, 4, 255, 0, 0, 0, 254, 255, 0, 0, 0, 255), 2, 0x000000FE, B);
    }

    /** "a 10 behind each 70th of the row and behind its last one (once, if they are one)". */
    private static void seventySigns() {
        for (int width : new int[] {1, 2, 69, 70, 71, 139, 140, 141, 209, 210, 211}) {
            StringBuilder row = new StringBuilder();
            for (int x = 1; x <= width; x++) {
                row.append('1');
                if (x == 70 || x == 140 || x == 210 || x == width) {
                    row.append('\n');
                }
            }
            written("P1 of " + width, 1, new Bytes().text("P1\n" + width + " 2\n" + row + row), width, repeat(2 * width, B));
        }
        written("P1 of white", 1, new Bytes().text("P1\n70 1\n" + "0".repeat(70) + "\n"), 70, repeat(70, W));
        int[] last = repeat(71, W);
        last[70] = B;
        written("the 71st", 1, new Bytes().text("P1\n71 1\n" + "0".repeat(70) + "\n1\n"), 71, last);
    }

    /** "eight pixels a byte, .. each row filled up to whole bytes", "'any' bytes are 0". */
    private static void bitsOfRows() {
        for (int width = 1; width <= 33; width++) {
            int length = (width + 7) / 8;
            int fill = 8 * length - width;
            Bytes due = new Bytes().text("P4\n" + width + " 2\n");
            for (int y = 0; y < 2; y++) {
                due.times(length - 1, 255).add(255 << fill);
            }
            written("P4 of " + width, 4, due, width, repeat(2 * width, B));
        }
        written("P4 of white", 4, new Bytes().text("P4\n9 1\n").add(0, 0), 9, repeat(9, W));
    }

    /** "numbers in texts have no zeros ahead". */
    private static void numbersOfTexts() {
        for (int v : new int[] {0, 1, 9, 10, 11, 99, 100, 101, 199, 200, 254, 255}) {
            written("P2 of " + v, 2, new Bytes().text("P2\n1 1\n255\n" + v + "\n"), 1, v * 0x01010100 + 255);
            int other = 255 - v;
            written("P3 of " + v, 3, new Bytes().text("P3\n1 2\n255\n" + v + " " + other + " " + v / 2 + "\n0 0 0\n"), 1,
                rgba(v, other, v / 2, 255), B);
            written("P5 of " + v, 5, new Bytes().text("P5\n1 1\n255\n").add(v), 1, v * 0x01010100 + 255);
            written("P6 of " + v, 6, new Bytes().text("P6\n1 1\n255\n").add(v, other, v / 2), 1,
                rgba(v, other, v / 2, 255));
        }
    }

    private static void sidesOfTexts() {
        for (int side : new int[] {1, 9, 10, 11, 99, 100, 101, 109, 110, 999, 1000, 1001, 1009, 1010, 1100, 4095, 4096}) {
            written("P4 of " + side + " columns", 4, new Bytes().text("P4\n" + side + " 1\n").times((side + 7) / 8, 0), side,
                repeat(side, W));
            written("P5 of " + side + " rows", 5, new Bytes().text("P5\n1 " + side + "\n255\n").times(side, 255), 1,
                repeat(side, W));
        }
    }

    private static Bytes bmp(int width, int height, int form, int[] colours, int size) {
        int used = colours.length;
        Bytes out = new Bytes().text("BM").low4(54 + 4 * used + size, 0, 54 + 4 * used, 40, width, height)
            .low2(1, form == 7 ? 24 : 8).low4(form == 9 ? 1 : 0, size, 2835, 2835, used, 0);
        for (int v : colours) {
            out.add(v >> 8, v >> 16, v >> 24, 0);
        }
        return out;
    }

    /** Rows "filled up to a multiple of four bytes": of 24 bits and of 8. */
    private static void bmpFillings() {
        for (int width = 1; width <= 9; width++) {
            int wide = (3 * width + 3) / 4 * 4;
            int narrow = (width + 3) / 4 * 4;
            Bytes due = bmp(width, 2, 7, new int[0], 2 * wide);
            Bytes indexed = bmp(width, 2, 8, new int[] {R}, 2 * narrow);
            for (int y = 0; y < 2; y++) {
                for (int x = 0; x < width; x++) {
                    due.add(3, 2, 1);
                }
                due.times(wide - 3 * width, 0);
                indexed.times(narrow, 0);
            }
            written("24 bits of " + width, 7, due, width, repeat(2 * width, R));
            written("8 bits of " + width, 8, indexed, width, repeat(2 * width, R));
            int[] other = repeat(2 * width, R);
            other[width - 1] = W;
            Bytes last = bmp(width, 2, 8, width == 1 ? new int[] {W, R} : new int[] {R, W}, 2 * narrow);
            last.times(width, width == 1 ? 1 : 0).times(narrow - width, 0);
            last.times(width - 1, 0).add(width == 1 ? 0 : 1).times(narrow - width, 0);
            written("8 bits of " + width + ", the last another", 8, last, width, other);
        }
    }

    /** "of each row as many like pixels as there are, 255 at most, as a pair". */
    private static void bmpPairs() {
        int[] one = {R};
        for (int width : new int[] {1, 2, 254, 255}) {
            written("a pair of " + width, 9, bmp(width, 1, 9, one, 4).add(width, 0, 0, 1), width, repeat(width, R));
        }
        for (int width : new int[] {256, 257, 509, 510}) {
            written("two pairs of " + width, 9, bmp(width, 1, 9, one, 6).add(255, 0, width - 255, 0, 0, 1), width,
                repeat(width, R));
        }
        written("three pairs of 511", 9, bmp(511, 1, 9, one, 8).add(255, 0, 255, 0, 1, 0, 0, 1), 511, repeat(511, R));
        int[] pixels = joined(repeat(255, R), repeat(1, W), repeat(256, R));
        written("another behind 255", 9, bmp(512, 1, 9, new int[] {R, W}, 10).add(255, 0, 1, 1, 255, 0, 1, 0, 0, 1), 512,
            pixels);
    }

    /** "0, 0 behind each row but the last one, 0, 1 behind that", "the bottom row first". */
    private static void bmpRows() {
        int[] two = {R, W};
        written("one row", 9, bmp(1, 1, 9, new int[] {R}, 4).add(1, 0, 0, 1), 1, R);
        written("two rows", 9, bmp(1, 2, 9, two, 8).add(1, 1, 0, 0, 1, 0, 0, 1), 1, R, W);
        written("two rows alike", 9, bmp(2, 2, 9, new int[] {R}, 8).add(2, 0, 0, 0, 2, 0, 0, 1), 2, R, R, R, R);
        written("three rows", 9, bmp(1, 3, 9, two, 12).add(1, 0, 0, 0, 1, 1, 0, 0, 1, 0, 0, 1), 1, R, W, R);
        written("8 bits", 8, bmp(1, 2, 8, two, 8).add(1, 0, 0, 0, 0, 0, 0, 0), 1, R, W);
        written("24 bits", 7, bmp(1, 2, 7, new int[0], 8).add(255, 255, 255, 0, 3, 2, 1, 0), 1, R, W);
    }

    private static int[] colours(int many) {
        int[] all = new int[many];
        for (int k = 0; k < many; k++) {
            all[k] = rgba(k, k / 2, 255 - k, 255);
        }
        return all;
    }

    /** "at most 256 COLOURS", "in their order": one up to 256 of them. */
    private static void bmpColours() {
        for (int many : new int[] {1, 2, 255, 256}) {
            int[] all = colours(many);
            int length = (many + 3) / 4 * 4;
            Bytes rows = bmp(many, 1, 8, all, length);
            Bytes pairs = bmp(many, 1, 9, all, 2 * many + 2);
            for (int k = 0; k < many; k++) {
                rows.add(k);
                pairs.add(1, k);
            }
            written("8 bits of " + many + " colours", 8, rows.times(length - many, 0), many, all);
            written("pairs of " + many + " colours", 9, pairs.add(0, 1), many, all);
        }
        written("the top row's come first", 8, bmp(2, 2, 8, new int[] {W, R, B}, 8).add(2, 0, 0, 0, 0, 1, 0, 0), 2, W, R, B,
            W);
    }

    private static Bytes tga(int type, int width, int height, int... data) {
        return new Bytes().add(0, 0, type).low2(0, 0).add(0).low2(0, 0, width, height).add(8, 32).add(data);
    }

    private static Bytes mapped(int type, int many, int deep, int width, int height) {
        return new Bytes().add(0, 1, type).low2(0, many).add(deep).low2(0, 0, width, height).add(8, deep == 32 ? 40 : 32);
    }

    /** "a packet of as many like ones as there are, 128 at most". */
    private static void tgaLikePackets() {
        for (int many : new int[] {2, 3, 127, 128}) {
            written(many + " like ones", 13, tga(11, many, 1, 127 + many, 255), many, repeat(many, W));
            written(many + " like colours", 11, new Bytes().add(0, 0, 10).low2(0, 0).add(0).low2(0, 0, many, 1).add(24, 32)
                .add(127 + many, 3, 2, 1), many, repeat(many, R));
            written(many + " like entries", 15, mapped(9, 1, 24, many, 1).add(3, 2, 1).add(127 + many, 0), many,
                repeat(many, R));
        }
        // The last one of 129 has no next one: it is a packet of pixels as they are.
        written("129 like ones", 13, tga(11, 129, 1, 255, 255, 0, 255), 129, repeat(129, W));
        written("130 like ones", 13, tga(11, 130, 1, 255, 255, 129, 255), 130, repeat(130, W));
        written("256 like ones", 13, tga(11, 256, 1, 255, 255, 255, 255), 256, repeat(256, W));
        written("257 like ones", 13, tga(11, 257, 1, 255, 255, 255, 255, 0, 255), 257, repeat(257, W));
    }

    /** "one of pixels as they are, up to the row's end ..., 128 at most". */
    private static void tgaUnlikePackets() {
        for (int many : new int[] {1, 2, 127, 128}) {
            Bytes due = tga(11, many, 1, many - 1);
            for (int k = 0; k < many; k++) {
                due.add(k);
            }
            written(many + " unlike ones", 13, due, many, grays(many));
        }
        for (int many : new int[] {129, 130, 256, 257}) {
            Bytes due = tga(11, many, 1);
            for (int k = 0; k < many; k++) {
                if (k % 128 == 0) {
                    due.add(Math.min(128, many - k) - 1);
                }
                due.add(k % 191);
            }
            written(many + " unlike ones", 13, due, many, grays(many));
        }
    }

    /** "or ahead of the first one that is like the next one of its row". */
    private static void tgaMixedPackets() {
        int a = 0x010101FF;
        int b = 0x020202FF;
        int c = 0x030303FF;
        written("a, b b", 13, tga(11, 3, 1, 0, 1, 129, 2), 3, a, b, b);
        written("a b, c c", 13, tga(11, 4, 1, 1, 1, 2, 129, 3), 4, a, b, c, c);
        written("a a, b", 13, tga(11, 3, 1, 129, 1, 0, 2), 3, a, a, b);
        written("a a, b, c c", 13, tga(11, 5, 1, 129, 1, 0, 2, 129, 3), 5, a, a, b, c, c);
        written("a a, b b", 13, tga(11, 4, 1, 129, 1, 129, 2), 4, a, a, b, b);
        written("a b a", 13, tga(11, 3, 1, 2, 1, 2, 1), 3, a, b, a);
        for (int many : new int[] {127, 128, 129}) {
            Bytes due = tga(11, many + 2, 1);
            int[] pixels = joined(grays(many), new int[] {W, W});
            for (int k = 0; k < many; k++) {
                if (k % 128 == 0) {
                    due.add(Math.min(128, many - k) - 1);
                }
                due.add(k);
            }
            written(many + " unlike ones ahead of like ones", 13, due.add(129, 255), many + 2, pixels);
        }
        written("128 like ones ahead of unlike ones", 13, tga(11, 130, 1, 255, 255, 1, 1, 2), 130,
            joined(repeat(128, W), new int[] {a, b}));
        written("129 like ones ahead of unlike ones", 13, tga(11, 131, 1, 255, 255, 2, 255, 1, 2), 131,
            joined(repeat(129, W), new int[] {a, b}));
    }

    /** "of its row": no packet goes over its end. */
    private static void tgaRows() {
        written("like ones in two rows", 13, tga(11, 2, 2, 129, 255, 129, 255), 2, W, W, W, W);
        written("one a row", 13, tga(11, 1, 3, 0, 255, 0, 255, 0, 0), 1, W, W, B);
        written("a row's last like the next row's first", 13, tga(11, 2, 2, 1, 0, 255, 1, 255, 0), 2, B, W, W, B);
        written("gray", 12, tga(3, 2, 2, 0, 255, 255, 0), 2, B, W, W, B);
    }

    /** "these are those of rasters that are not OPAQUE .., else 24", "MANY COLOURS, in their order": up to 256. */
    private static void tgaColours() {
        written("24 bits", 10, new Bytes().add(0, 0, 2).low2(0, 0).add(0).low2(0, 0, 1, 1).add(24, 32).add(3, 2, 1), 1, R);
        written("32 bits", 10, new Bytes().add(0, 0, 2).low2(0, 0).add(0).low2(0, 0, 1, 1).add(32, 40).add(3, 2, 1, 254),
            1, R - 1);
        written("32 bits, the last one", 11, new Bytes().add(0, 0, 10).low2(0, 0).add(0).low2(0, 0, 2, 1).add(32, 40)
            .add(1, 3, 2, 1, 255, 3, 2, 1, 254), 2, R, R - 1);
        for (int many : new int[] {1, 2, 255, 256}) {
            for (int alpha = 254; alpha < 256; alpha++) {
                int[] all = colours(many);
                all[many - 1] = all[many - 1] & 0xFFFFFF00 | alpha;
                Bytes due = mapped(1, many, alpha == 255 ? 24 : 32, many, 1);
                for (int v : all) {
                    due.add(v >> 8, v >> 16, v >> 24);
                    if (alpha == 254) {
                        due.add(v);
                    }
                }
                for (int k = 0; k < many; k++) {
                    due.add(k);
                }
                written(many + " entries, alpha " + alpha, 14, due, many, all);
            }
        }
        written("entries in packets", 15, mapped(9, 2, 32, 3, 1).add(3, 2, 1, 0, 3, 2, 1, 255).add(0, 0, 129, 1), 3,
            R - 255, R, R);
    }

    private static Bytes pcx(int planes, int step, int width, int height, int... lines) {
        return new Bytes().add(10, 5, 1, 8).low2(0, 0, width - 1, height - 1, 72, 72).times(49, 0).add(planes).low2(step)
            .add(1).times(59, 0).add(lines);
    }

    private static int[] thrice(int... line) {
        return joined(line, line, line);
    }

    /** "as many like bytes as there are, 63 at most, as b and the byte". */
    private static void pcxRuns() {
        for (int width : new int[] {2, 62}) {
            written(width + " like bytes", 16, pcx(3, width, width, 1, thrice(192 + width, 7)), width,
                repeat(width, 0x070707FF));
        }
        written("63 like bytes and a 0", 16, pcx(3, 64, 63, 1, thrice(255, 7, 0)), 63, repeat(63, 0x070707FF));
        written("64 like bytes", 16, pcx(3, 64, 64, 1, thrice(255, 7, 7)), 64, repeat(64, 0x070707FF));
        written("65 like bytes and a 0", 16, pcx(3, 66, 65, 1, thrice(255, 7, 194, 7, 0)), 65, repeat(65, 0x070707FF));
        written("126 like bytes", 16, pcx(3, 126, 126, 1, thrice(255, 7, 255, 7)), 126, repeat(126, 0x070707FF));
        written("128 like bytes", 16, pcx(3, 128, 128, 1, thrice(255, 7, 255, 7, 194, 7)), 128, repeat(128, 0x070707FF));
        written("64 like bytes from 192 on", 16, pcx(3, 64, 64, 1, thrice(255, 200, 193, 200)), 64,
            repeat(64, 0xC8C8C8FF));
        written("no run over planes", 16, pcx(3, 2, 2, 1, thrice(194, 7)), 2, 0x070707FF, 0x070707FF);
        written("no run over lines", 16, pcx(3, 2, 2, 2, joined(thrice(194, 7), thrice(194, 7))), 2,
            repeat(4, 0x070707FF));
        written("a 0 more where the line ends by 0", 16, pcx(3, 4, 3, 1, thrice(7, 195, 0)), 3, 0x070707FF, B, B);
    }

    /** "one alone below 192 as itself". */
    private static void pcxBytes() {
        for (int v : new int[] {1, 2, 190, 191}) {
            written("one of " + v, 16, pcx(3, 2, 1, 1, thrice(v, 0)), 1, v * 0x01010100 + 255);
        }
        for (int v : new int[] {192, 193, 254, 255}) {
            written("one of " + v, 16, pcx(3, 2, 1, 1, thrice(193, v, 0)), 1, v * 0x01010100 + 255);
        }
        written("one of 0", 16, pcx(3, 2, 1, 1, thrice(194, 0)), 1, B);
        written("two of 191", 16, pcx(3, 2, 2, 1, thrice(194, 191)), 2, 0xBFBFBFFF, 0xBFBFBFFF);
    }

    /** "STEP the least one": even. */
    private static void pcxSteps() {
        for (int width = 1; width <= 8; width++) {
            int step = (width + 1) / 2 * 2;
            Bytes due = pcx(1, step, width, 1);
            int[] pixels = new int[width];
            for (int x = 0; x < width; x++) {
                pixels[x] = 0x101010FF + 0x01010100 * x;
            }
            if (width == 1) {
                due.add(194, 0);
            }
            for (int x = 0; x < step && width > 1; x++) {
                due.add(x < width ? x : 0);
            }
            due.add(12);
            for (int x = 0; x < width; x++) {
                due.add(16 + x, 16 + x, 16 + x);
            }
            written("step of " + width, 17, due.times(3 * (256 - width), 0), width, pixels);
        }
    }

    /** "its 256 colours the COLOURS, in their order, then 0, 0, 0". */
    private static void pcxColours() {
        for (int many : new int[] {2, 254, 255, 256}) {
            int[] all = colours(many);
            int step = many + many % 2;
            Bytes due = pcx(1, step, many, 1);
            for (int k = 0; k < many; k++) {
                if (k >= 192) {
                    due.add(193);
                }
                due.add(k);
            }
            due.times(step - many, 0).add(12);
            for (int v : all) {
                due.add(v >> 24, v >> 16, v >> 8);
            }
            written(many + " colours", 17, due.times(3 * (256 - many), 0), many, all);
        }
    }

    /** Sides above 255 have a second byte. */
    private static void highSides() {
        for (int[] size : new int[][] {{255, 1}, {256, 1}, {257, 1}, {1, 255}, {1, 256}, {1, 257}, {4096, 1}, {1, 4096}}) {
            int w = size[0];
            int h = size[1];
            RasterMint x = new RasterMint();
            x.make(0, w, h, B);
            x.write(0, 0);
            Check.due("QOI width of " + w, (int) (x.bytes(4) >> 32), w);
            Check.due("QOI height of " + h, (int) x.bytes(4), h);
            x.write(0, 7);
            Check.due("BMP width of " + w, Integer.reverseBytes((int) (x.bytes(18) >> 32)), w);
            Check.due("BMP height of " + h, Integer.reverseBytes((int) x.bytes(18)), h);
            x.write(0, 12);
            Check.due("TGA width of " + w, x.byteAt(12) + 256 * x.byteAt(13), w);
            Check.due("TGA height of " + h, x.byteAt(14) + 256 * x.byteAt(15), h);
            x.write(0, 17);
            Check.due("PCX width of " + w, x.byteAt(8) + 256 * x.byteAt(9), w - 1);
            Check.due("PCX height of " + h, x.byteAt(10) + 256 * x.byteAt(11), h - 1);
            Check.due("PCX step of " + w, x.byteAt(66) + 256 * x.byteAt(67), w + w % 2);
        }
    }

    /** What a form holds is read again as it was, at each size up to the most. */
    private static void allSizesComeBack() {
        int[][] sizes = {{1, 1}, {1, 2}, {2, 1}, {7, 5}, {4096, 1}, {1, 4096}, {64, 64}, {63, 65}, {4095, 1}, {129, 31}};
        int[] families = {0, 1, 1, 1, 1, 1, 1, 2, 2, 2, 3, 3, 3, 3, 3, 3, 4, 4};
        int[][] paints = {{B, 0}, {W, 0}, {B, 0x01010100}, {B, 0x00010300}, {R, 0x01000000}, {0, 1}, {0x12345678, 0x9E3779B1},
            {0xC1C1C1FF, 0}};
        for (int[] size : sizes) {
            for (int[] paint : paints) {
                RasterMint x = new RasterMint();
                x.make(0, size[0], size[1], paint[0]);
                x.sweep(0, 0, 0, 4096, paint[0], paint[1]);
                for (int form = 0; form < 18; form++) {
                    if (x.holds(0, form)) {
                        String name = "form " + form + " of " + size[0] + " x " + size[1] + " by " + paint[1];
                        int n = x.write(0, form);
                        Check.due(name + ": again", x.again(), n);
                        Check.due(name + ": read", x.read(families[form], 1), 0);
                        Check.due(name + ": same", x.same(0, 1), true);
                    }
                }
            }
        }
    }
}
