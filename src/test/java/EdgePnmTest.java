/** Each sentence of family 1 that names a bound: the last that is taken, the first that is not. */
public final class EdgePnmTest {
    private static final int PNM = 1;
    private static final int BLACK = 0x000000FF;
    private static final int WHITE = 0xFFFFFFFF;
    private static final int[] BLANKS = {9, 10, 11, 12, 13, 32};
    private static final int[] GAPS = {9, 10, 11, 12, 13, 32, '#'};

    public static void main(String[] args) {
        signs();
        gapsOfTheHead();
        gapsOfSamples();
        oneBlank();
        notes();
        digits();
        longNumbers();
        sides();
        pixels();
        maxvals();
        samplesAsText();
        samplesAsBytes();
        roundedSamples();
        plainSigns();
        rowsOfBits();
        behindTexts();
        behindBytes();
        firstSamples();
        cuts();
        Check.finish("EdgePnmTest");
    }

    private static int gray(int v) {
        return MadeFiles.gray(v);
    }

    private static void taken(String text, int width, int... pixels) {
        Check.taken(text, PNM, Bytes.of(text), width, pixels);
    }

    private static void refused(String text, int fault, int place) {
        Check.refused(text, PNM, Bytes.of(text), fault, place);
    }

    private static void eachValue(String text, int place, int fault, int... taken) {
        Check.eachValue(text + " with", PNM, Bytes.of(text), place, fault, place, taken);
    }

    /** "P; a digit K, 1 .. 6". */
    private static void signs() {
        eachValue("P1 1 1 1", 0, 2, 'P');
        for (int v = 0; v < 256; v++) {
            byte[] file = Bytes.with(Bytes.of("P1 1 1 "), 1, v);
            boolean can = v >= '1' && v <= '6';
            Check.refused("K " + v, PNM, file, can ? 1 : 2, can ? 7 : 1);
        }
        refused("P", 1, 1);
        refused("P0", 2, 1);
        refused("P7", 2, 1);
        refused("P6", 1, 2);
    }

    /** "GAP; WIDTH; GAP; HEIGHT .. GAP, MAXVAL": "another byte stands: 2 at it". */
    private static void gapsOfTheHead() {
        for (int b = 0; b < 256; b++) {
            byte[] behindK = Bytes.with(Bytes.of("P2 \n1 1 9 1"), 2, b);
            byte[] behindWidth = Bytes.with(Bytes.of("P2 1 \n1 9 1"), 4, b);
            byte[] behindHeight = Bytes.with(Bytes.of("P2 1 1 \n9 1"), 6, b);
            if (isIn(b, GAPS)) {
                Check.taken("behind K: " + b, PNM, behindK, 1, gray(28));
                Check.taken("behind WIDTH: " + b, PNM, behindWidth, 1, gray(28));
                Check.taken("behind HEIGHT: " + b, PNM, behindHeight, 1, gray(28));
            } else {
                Check.refused("behind K: " + b, PNM, behindK, 2, 2);
                if (b < '0' || b > '9') {
                    Check.refused("behind WIDTH: " + b, PNM, behindWidth, 2, 4);
                    Check.refused("behind HEIGHT: " + b, PNM, behindHeight, 2, 6);
                }
            }
        }
        refused("P21 1 9 1", 2, 2);
        refused("P2 1", 1, 4);
        refused("P2 1 1", 1, 6);
        refused("P2", 1, 2);
        refused("P2 ", 1, 3);
        refused("P2 1 ", 1, 5);
        refused("P2 1 1 ", 1, 7);
    }

    private static boolean isIn(int b, int[] values) {
        for (int v : values) {
            if (v == b) {
                return true;
            }
        }
        return false;
    }

    /** "K 2, 3: each is a GAP and a number", "K 1: .. (for the first one a GAP must)". */
    private static void gapsOfSamples() {
        for (int b = 0; b < 256; b++) {
            byte[] first = Bytes.with(Bytes.of("P2 1 1 9 \n1"), 8, b);
            byte[] second = Bytes.with(Bytes.of("P2 2 1 9 1 \n1"), 10, b);
            byte[] third = Bytes.with(Bytes.of("P3 1 1 9 1 2 \n3"), 12, b);
            byte[] sign = Bytes.with(Bytes.of("P1 1 1 \n1"), 6, b);
            byte[] between = Bytes.with(Bytes.of("P1 3 1 1 \n01"), 8, b);
            boolean digit = b >= '0' && b <= '9';
            if (isIn(b, GAPS)) {
                Check.taken("first: " + b, PNM, first, 1, gray(28));
                Check.taken("second: " + b, PNM, second, 2, gray(28), gray(28));
                Check.taken("third: " + b, PNM, third, 1, 28 << 24 | 57 << 16 | 85 << 8 | 255);
                Check.taken("sign: " + b, PNM, sign, 1, BLACK);
                Check.taken("between: " + b, PNM, between, 3, BLACK, WHITE, BLACK);
            } else if (!digit) {
                Check.refused("first: " + b, PNM, first, 2, 8);
                Check.refused("second: " + b, PNM, second, 2, 10);
                Check.refused("third: " + b, PNM, third, 2, 12);
                Check.refused("sign: " + b, PNM, sign, 2, 6);
                Check.refused("between: " + b, PNM, between, 2, 8);
            }
        }
        taken("P1 3 1 101", 3, BLACK, WHITE, BLACK);
        refused("P1 1 11", 1, 7);
        refused("P2 1 1 9", 1, 8);
        refused("P2 1 1 9 ", 1, 9);
        refused("P1 1 1", 1, 6);
        refused("P1 1 1 ", 1, 7);
    }

    /** "K 4, 5, 6: one blank, then bytes": no second one, no note. */
    private static void oneBlank() {
        for (int b = 0; b < 256; b++) {
            byte[] bits = Bytes.with(Bytes.of("P4 1 1 \200"), 6, b);
            byte[] grays = Bytes.with(Bytes.of("P5 1 1 255 a"), 10, b);
            byte[] colours = Bytes.with(Bytes.of("P6 1 1 255 abc"), 10, b);
            if (isIn(b, BLANKS)) {
                Check.taken("P4: " + b, PNM, bits, 1, BLACK);
                Check.taken("P5: " + b, PNM, grays, 1, gray('a'));
                Check.taken("P6: " + b, PNM, colours, 1, 0x616263FF);
            } else if (b < '0' || b > '9') {
                Check.refused("P4: " + b, PNM, bits, 2, 6);
                Check.refused("P5: " + b, PNM, grays, 2, 10);
                Check.refused("P6: " + b, PNM, colours, 2, 10);
            }
            taken("P5 1 1 255 " + (char) b, 1, gray(b));
        }
        refused("P4 1 1 \n\200", 5, 8);
        refused("P5 1 1 255 \na", 5, 12);
        refused("P5 1 1 255#\na", 2, 10);
        refused("P4 1 1", 1, 6);
        refused("P5 1 1 255", 1, 10);
        refused("P6 1 1 255 ", 1, 11);
    }

    /** "a NOTE goes from # up to and with the next 10, or to the end." */
    private static void notes() {
        taken("P1#\n1#\n1#\n1", 1, BLACK);
        taken("P1###\n1 1 1#", 1, BLACK);
        taken("P1 1 1 #0#0\r0\n1", 1, BLACK);
        taken("P1 1#2\n1 1", 1, BLACK);
        taken("P2 1#2\n1 9#9\n#\n9#9", 1, WHITE);
        taken("P1 2 1 1#0\n1", 2, BLACK, BLACK);
        taken("P2 2 1 9 9#0\n0", 2, WHITE, BLACK);
        refused("P1#", 1, 3);
        refused("P1# 1 1 1", 1, 9);
        refused("P1 1 1#\r1", 1, 9);
        refused("P1 1 1#\013\f1", 1, 10);
        refused("P1 1 1#\n", 1, 8);
        refused("P1 1 1#\n#", 1, 9);
        refused("P1 1 1#\n2", 2, 8);
        refused("P2 2 1 9 9#0", 1, 12);
        refused("P1 2 1 1#0", 1, 10);
    }

    /** "A number: digits": the signs next to 0 and 9 are none. */
    private static void digits() {
        for (int b = 0; b < 256; b++) {
            boolean digit = b >= '0' && b <= '9';
            byte[] width = Bytes.with(Bytes.of("P1 x 1 1"), 3, b);
            byte[] height = Bytes.with(Bytes.of("P1 1 x 1"), 5, b);
            byte[] maxval = Bytes.with(Bytes.of("P5 1 1 x"), 7, b);
            byte[] sample = Bytes.with(Bytes.of("P2 1 1 9 x"), 9, b);
            if (isIn(b, BLANKS) || b == '#') {
                continue;
            }
            if (!digit || b == '0') {
                Check.refused("width " + b, PNM, width, 2, 3);
                Check.refused("height " + b, PNM, height, 2, 5);
                Check.refused("maxval " + b, PNM, maxval, 2, 7);
            } else if (b != '1') {
                Check.refused("width " + b, PNM, width, 1, 8);
                Check.refused("height " + b, PNM, height, 1, 8);
                Check.refused("maxval " + b, PNM, maxval, 1, 8);
            }
            if (digit) {
                Check.taken("sample " + b, PNM, sample, 1, gray((510 * (b - '0') + 9) / 18));
            } else {
                Check.refused("sample " + b, PNM, sample, 2, 9);
            }
        }
    }

    /** "as many as there are; above 1000000 it counts as that." */
    private static void longNumbers() {
        String zeros = "0".repeat(300);
        String nines = "9".repeat(300);
        taken("P2 " + zeros + "1 " + zeros + "1 " + zeros + "9 " + zeros + "9", 1, WHITE);
        refused("P2 " + zeros + " 1 1 1", 2, 3);
        refused("P2 " + nines, 3, 3);
        refused("P2 1 " + nines, 3, 5);
        refused("P2 1 1 " + nines, 2, 7);
        refused("P2 1 1 9 " + nines, 6, 9);
        refused("P2 1 1 65535 " + nines, 6, 13);
        for (String wrapped : new String[] {"4294967297", "18446744073709551617", "2147483648", "2147483649", "1000001"}) {
            refused("P2 " + wrapped + " 1 1 1", 3, 3);
            refused("P2 1 " + wrapped + " 1 1", 3, 5);
            refused("P2 1 1 " + wrapped + " 1", 2, 7);
            refused("P2 1 1 1 " + wrapped, 6, 9);
        }
    }

    /** "HEIGHT (0: 2; WIDTH above 4096: 3 at its own first digit)". */
    private static void sides() {
        refused("P1 0 1 1", 2, 3);
        refused("P1 1 0 1", 2, 5);
        refused("P1 0 0 1", 2, 3);
        refused("P1 0", 2, 3);
        refused("P1 00", 2, 3);
        refused("P1 1 00", 2, 5);
        refused("P1 4096", 1, 7);
        refused("P1 4097", 3, 3);
        refused("P1  4097", 3, 4);
        refused("P1 04097", 3, 3);
        refused("P1 4097 0", 3, 3);
        refused("P1 4097x", 3, 3);
        refused("P1 4096 0", 2, 8);
        refused("P1 4096x", 2, 7);
        refused("P1 1 4096", 1, 9);
        refused("P1 1 4097", 3, 5);
        refused("P1 1 4097x", 3, 5);
        refused("P1 1  04097", 3, 6);
    }

    /** "3 more than 4096 PIXELS (at the HEIGHT's first byte)". */
    private static void pixels() {
        for (int[] size : new int[][] {{4096, 1}, {1, 4096}, {64, 64}, {4095, 1}, {63, 65}, {2048, 2}}) {
            String head = " " + size[0] + " " + size[1];
            int total = size[0] * size[1];
            Check.sized("P1" + head, PNM, new Bytes().text("P1" + head + "\n").times(total, '1').file(), size[0], size[1],
                BLACK, BLACK);
            Check.sized("P4" + head, PNM, new Bytes().text("P4" + head + "\n").times((size[0] + 7) / 8 * size[1], 0).file(),
                size[0], size[1], WHITE, WHITE);
            Check.sized("P5" + head, PNM, new Bytes().text("P5" + head + " 9\n").times(total, 9).file(), size[0], size[1],
                WHITE, WHITE);
        }
        for (int[] size : new int[][] {{17, 241}, {64, 65}, {65, 64}, {4096, 2}, {2, 2049}, {241, 17}, {4096, 4096}}) {
            String width = " " + size[0] + " ";
            for (int k = 1; k <= 6; k++) {
                refused("P" + k + width + size[1] + " 9 9", 3, 2 + width.length());
            }
        }
    }

    /** "K 2, 3, 5, 6: GAP, MAXVAL 1 .. 65535." K 1, 4 have none. */
    private static void maxvals() {
        for (int k : new int[] {2, 3, 5, 6}) {
            String head = "P" + k + " 1 1 ";
            refused(head + "0 000000", 2, 7);
            refused(head + "00", 2, 7);
            refused(head + "65536 0 0 0", 2, 7);
            refused(head + "65536", 2, 7);
            refused(head + "0065536", 2, 7);
            refused(head + "100000", 2, 7);
            refused(head + "1", 1, 8);
            refused(head + "65535", 1, 12);
        }
        taken("P2 1 1 1 1", 1, WHITE);
        taken("P3 1 1 1 1 0 1", 1, 0xFF00FFFF);
        taken("P5 1 1 1 \1", 1, WHITE);
        taken("P2 1 1 65535 65535", 1, WHITE);
        taken("P3 1 1 65535 65535 0 65535", 1, 0xFF00FFFF);
        taken("P5 1 1 65535 \377\377", 1, WHITE);
        taken("P6 1 1 65535 \377\377\0\0\377\377", 1, 0xFF00FFFF);
        taken("P1 1 1 1", 1, BLACK);
        refused("P1 1 1 0 1", 5, 9);
    }

    /** "a number up to MAXVAL (else 6 at its first digit)". */
    private static void samplesAsText() {
        for (int max : new int[] {1, 2, 9, 10, 99, 254, 255, 256, 999, 1000, 65534, 65535}) {
            String head = "P2 2 1 " + max + " ";
            taken(head + max + " 0", 2, WHITE, BLACK);
            taken(head + "00 " + max, 2, BLACK, WHITE);
            refused(head + (max + 1) + " 0", 6, head.length());
            refused(head + "0 " + (max + 1), 6, head.length() + 2);
            refused(head + "0  00" + (max + 1), 6, head.length() + 3);
            String coloured = "P3 1 1 " + max + " ";
            refused(coloured + (max + 1), 6, coloured.length());
            refused(coloured + "0 " + (max + 1), 6, coloured.length() + 2);
            refused(coloured + "0 0 " + (max + 1), 6, coloured.length() + 4);
            taken(coloured + "0 0 " + max, 1, 0x0000FFFF);
        }
        refused("P2 1 1 9 10x", 6, 9);
    }

    /** "one byte a sample if MAXVAL is below 256, else two, the highest first", "6 .. the first one of two". */
    private static void samplesAsBytes() {
        for (int max : new int[] {1, 2, 100, 254}) {
            String head = "P5 2 1 " + max + " ";
            taken(head + (char) max + (char) 0, 2, WHITE, BLACK);
            refused(head + (char) (max + 1), 6, head.length());
            refused(head + (char) max + (char) (max + 1), 6, head.length() + 1);
            refused(head + (char) max + (char) 255, 6, head.length() + 1);
        }
        taken("P5 2 1 255 \377\376", 2, WHITE, gray(254));
        refused("P5 2 1 255 \377", 1, 12);
        refused("P5 1 1 255 \0\0", 5, 12);
        for (int max : new int[] {256, 257, 511, 512, 1000, 65534}) {
            String head = "P5 1 1 " + max + " ";
            String more = "" + (char) ((max + 1) / 256) + (char) ((max + 1) % 256);
            taken(head + (char) (max / 256) + (char) (max % 256), 1, WHITE);
            refused(head + more, 6, head.length());
            refused(head + more.charAt(0), 1, head.length() + 1);
            refused(head + "\0", 1, head.length() + 1);
            refused(head + "\0\0\0", 5, head.length() + 2);
            String coloured = "P6 1 1 " + max + " ";
            refused(coloured + "\0\0" + more + "\0\0", 6, coloured.length() + 2);
            refused(coloured + "\0\0\0\0" + more, 6, coloured.length() + 4);
        }
        refused("P6 1 1 255 \0\0", 1, 13);
        refused("P6 1 1 9 \0\0\12", 6, 11);
    }

    /** "A sample v stands for (510 * v + MAXVAL) / (2 * MAXVAL)." */
    private static void roundedSamples() {
        for (int max = 1; max < 256; max++) {
            Bytes file = new Bytes().text("P5 " + (max + 1) + " 1 " + max + "\n");
            int[] due = new int[max + 1];
            for (int v = 0; v <= max; v++) {
                file.add(v);
                due[v] = gray((510 * v + max) / (2 * max));
            }
            Check.taken("all samples of " + max, PNM, file.file(), max + 1, due);
        }
        // The halves: 510 * v + MAXVAL is just a multiple of 2 * MAXVAL, or one less.
        taken("P2 2 1 510 1 0", 2, gray(1), gray(0));
        taken("P2 2 1 511 1 2", 2, gray(0), gray(1));
        taken("P2 3 1 65535 128 129 65406", 3, gray(0), gray(1), gray(254));
        taken("P2 2 1 65535 65406 65407", 2, gray(254), gray(255));
    }

    /** "K 1: each is a 0 or 1". */
    private static void plainSigns() {
        for (int b = 0; b < 256; b++) {
            if (isIn(b, GAPS)) {
                continue;
            }
            byte[] first = Bytes.with(Bytes.of("P1 2 1 x1"), 7, b);
            byte[] last = Bytes.with(Bytes.of("P1 2 1 1x"), 8, b);
            if (b == '0' || b == '1') {
                Check.taken("first " + b, PNM, first, 2, b == '0' ? WHITE : BLACK, BLACK);
                Check.taken("last " + b, PNM, last, 2, BLACK, b == '0' ? WHITE : BLACK);
            } else {
                Check.refused("first " + b, PNM, first, 2, 7);
                Check.refused("last " + b, PNM, last, 2, 8);
            }
        }
    }

    /** "K 4: eight pixels a byte, .. each row filled up to whole bytes (any)". */
    private static void rowsOfBits() {
        for (int width = 1; width <= 33; width++) {
            int length = (width + 7) / 8;
            String head = "P4 " + width + " 2\n";
            int fill = (1 << 8 * length - width) - 1;
            int last = width - 1 & 7;
            Bytes ones = new Bytes().text(head).times(2 * length, 255);
            Bytes filling = new Bytes().text(head).times(length - 1, 0).add(fill).times(length - 1, 0).add(fill);
            Bytes corner = new Bytes().text(head).times(2 * length - 1, 0).add(128 >> last);
            Check.sized(head + "ones", PNM, ones.file(), width, 2, BLACK, BLACK);
            Check.sized(head + "filling", PNM, filling.file(), width, 2, WHITE, WHITE);
            Check.sized(head + "corner", PNM, corner.file(), width, 2, WHITE, BLACK);
            Check.refused(head + "cut", PNM, new Bytes().text(head).times(2 * length - 1, 0).file(), 1,
                head.length() + 2 * length - 1);
            Check.refused(head + "behind", PNM, new Bytes().text(head).times(2 * length + 1, 0).file(), 5,
                head.length() + 2 * length);
        }
    }

    /** "Behind the last one of K 1, 2, 3 blanks and notes alone." */
    private static void behindTexts() {
        for (int b = 0; b < 256; b++) {
            boolean can = isIn(b, GAPS);
            boolean digit = b >= '0' && b <= '9';
            for (String text : new String[] {"P1 1 1 1", "P2 1 1 9 9", "P3 1 1 9 9 9 9", "P2 1 1 9 9 ", "P1 1 1 1#\n"}) {
                boolean longer = digit && text.charAt(1) != '1' && !text.endsWith(" ");
                int fault = can ? 0 : longer ? 6 : 5;
                int place = can ? -1 : longer ? text.length() - 1 : text.length();
                RasterMint x = new RasterMint();
                Check.tape(x, Bytes.of(text + (char) b));
                Check.due(text + " and " + b, x.read(PNM, 0), fault);
                Check.due(text + " and " + b + ": place", x.place(), place);
            }
        }
        taken("P1 1 1 1 \t\r\n\013\f#x\n#", 1, BLACK);
        refused("P1 1 1 1#x\nx", 5, 11);
        refused("P1 1 1 1 #x\n #y\n 1", 5, 17);
    }

    /** "5 a byte behind the file's end (at it)": of K 4, 5, 6 each byte is one. */
    private static void behindBytes() {
        for (int b = 0; b < 256; b++) {
            refused("P4 1 1 \200" + (char) b, 5, 8);
            refused("P5 1 1 255 a" + (char) b, 5, 12);
            refused("P6 1 1 255 abc" + (char) b, 5, 14);
        }
    }

    /** "MAXVAL (1 without), bytes ahead of its samples' first one (of its GAP, of K 1, 2, 3)". */
    private static void firstSamples() {
        Check.told("P1", PNM, Bytes.of("P1 1 1#\n 1"), 1, 1, 6);
        Check.told("P1 with a gap", PNM, Bytes.of("P1 \n1 #\n1  1"), 1, 1, 9);
        Check.told("P2", PNM, Bytes.of("P2 1 1 65535   1"), 2, 65535, 12);
        Check.told("P2 with zeros", PNM, Bytes.of("P2 01 1 09 1"), 2, 9, 10);
        Check.told("P3", PNM, Bytes.of("P3 1 1 1#\n#\n1 1 1"), 3, 1, 8);
        Check.told("P4", PNM, Bytes.of("P4 1  1\nx"), 4, 1, 8);
        Check.told("P5", PNM, Bytes.of("P5 1 1 256\n\0\1"), 5, 256, 11);
        Check.told("P6", PNM, Bytes.of("P6 1 1 255\n   "), 6, 255, 11);
    }

    /** "1 a byte is wanted where the end is (place n)". */
    private static void cuts() {
        Check.refusedIfCut("P1", PNM, Bytes.of("P1#a\n12#b\n1#c\n010101010101"));
        Check.refusedIfCut("P2", PNM, Bytes.of("P2 2 2 9 1 2 3 4"));
        Check.refusedIfCut("P3", PNM, Bytes.of("P3 1 1 9 1 2 3"));
        Check.refusedIfCut("P4", PNM, Bytes.of("P4 12 2 abcd"));
        Check.refusedIfCut("P5", PNM, Bytes.of("P5 2 2 9 \1\2\3\4"));
    }
}
