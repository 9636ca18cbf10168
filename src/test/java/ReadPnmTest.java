/** Promises 5, 6, 7: files of family 1. */
public final class ReadPnmTest {
    private static final int PNM = 1;
    private static final int BLACK = 0x000000FF;
    private static final int WHITE = 0xFFFFFFFF;

    public static void main(String[] args) {
        signs();
        numbers();
        bits();
        bytes();
        headers();
        sizes();
        gaps();
        facts();
        Check.finish("ReadPnmTest");
    }

    private static int gray(int v) {
        return MadeFiles.gray(v);
    }

    private static void taken(String text, int width, int... pixels) {
        Check.taken(text, PNM, Bytes.of(text), width, pixels);
    }

    private static void refused(String text, int fault, int place) {
        Check.refused(text, PNM, Bytes.of(text), fault, place);
    }

    private static void signs() {
        taken("P1 2 2 1001", 2, BLACK, WHITE, WHITE, BLACK);
        taken("P1\n2\t2\r1 0#note\n 0\f1\013", 2, BLACK, WHITE, WHITE, BLACK);
        taken("P1 2 1#n\n10", 2, BLACK, WHITE);
        taken("P1 2 1 10#to the end", 2, BLACK, WHITE);
        taken("P1 2 1 1#a\n#b\n0 #c\n#", 2, BLACK, WHITE);
        refused("P1 2 1 1", 1, 8);
        refused("P1 2 1", 1, 6);
        refused("P1 2 1 ", 1, 7);
        refused("P1 2 1 1#0", 1, 10);
        refused("P1 2 1 2", 2, 7);
        refused("P1 2 1 1x", 2, 8);
        refused("P1 2 1 1/", 2, 8);
        refused("P1 2 1x10", 2, 6);
        refused("P1 2 1 101", 5, 9);
        refused("P1 2 1 10 \n#a\n x", 5, 15);
        refused("P1 2 1 10\0", 5, 9);
        Check.refusedIfCut("P1", PNM, Bytes.of("P1 2 2 10 01"));
    }

    private static void numbers() {
        taken("P2 2 1 255 7 250", 2, gray(7), gray(250));
        taken("P2 2 1 15 0 15", 2, gray(0), gray(255));
        taken("P2 3 1 2 0 1 2", 3, gray(0), gray(128), gray(255));
        taken("P2 1 1 1000 501", 1, gray((510 * 501 + 1000) / 2000));
        taken("P2 2 1 65535 128 65535", 2, gray(0), gray(255));
        taken("P2 2 1 65535 129 32767", 2, gray(1), gray(127));
        taken("P3 1 2 255 1 2 3 4 5 6", 1, 0x010203FF, 0x040506FF);
        taken("P3#\n1#\n1#\n9#\n9#\n0#\n3", 1, 0xFF0055FF);
        taken("P2 1 1 255 007 # end", 1, gray(7));
        taken("P2 1 1 00255 0000000000000000000000012\n", 1, gray(12));
        refused("P2 1 1 255 256", 6, 11);
        refused("P2 1 1 9 10", 6, 9);
        refused("P2 1 1 9 010", 6, 9);
        refused("P2 1 1 9 99999999999999999999", 6, 9);
        refused("P2 1 1 9 4294967296", 6, 9);
        refused("P3 1 1 9 1 2 10", 6, 13);
        refused("P3 1 1 9 1 10 x", 6, 11);
        refused("P2 2 1 9 1", 1, 10);
        refused("P2 2 1 9 1 ", 1, 11);
        refused("P2 2 1 9 1x", 2, 10);
        refused("P2 2 1 9 1 x", 2, 11);
        refused("P2 2 1 9 1 -1", 2, 11);
        refused("P2 2 1 9 1:1", 2, 10);
        refused("P2 1 1 9 1x", 5, 10);
        refused("P2 1 1 9 1 x", 5, 11);
        refused("P2 1 1 9 1 2", 5, 11);
        refused("P2 1 1 9 1#\n3", 5, 12);
        refused("P3 1 1 9 1 2 3 4", 5, 15);
    }

    private static void bits() {
        taken("P4 9 2\n\245\377\132\000", 9, BLACK, WHITE, BLACK, WHITE, WHITE, BLACK, WHITE, BLACK, BLACK,
            WHITE, BLACK, WHITE, BLACK, BLACK, WHITE, BLACK, WHITE, WHITE);
        taken("P4 8 1 \001", 8, WHITE, WHITE, WHITE, WHITE, WHITE, WHITE, WHITE, BLACK);
        taken("P4 1 3 \200\177\377", 1, BLACK, WHITE, BLACK);
        refused("P4 9 1 \000", 1, 8);
        refused("P4 9 1 \000\000\000", 5, 9);
        refused("P4 9 1#\000\000", 2, 6);
        refused("P4 9 1", 1, 6);
    }

    private static void bytes() {
        taken("P5 2 1 255 \007\372", 2, gray(7), gray(250));
        taken("P5 2 1 255\n\n ", 2, gray(10), gray(32));
        taken("P5 2 1 3 \001\002", 2, gray(85), gray(170));
        taken("P6 1 2 255 \001\002\003\004\005\006", 1, 0x010203FF, 0x040506FF);
        taken("P5 1 1 256 \001\000", 1, gray(255));
        taken("P5 1 1 256 \000\200", 1, gray(128));
        taken("P5 2 1 65535 \200\000\000\200", 2, gray(128), gray(0));
        taken("P6 1 1 1000 \003\350\000\000\001\364", 1, 0xFF0080FF);
        refused("P5 1 1 254 \377", 6, 11);
        refused("P5 2 1 254 \376\377", 6, 12);
        refused("P6 1 1 9 \001\012\001", 6, 10);
        refused("P6 1 1 9 \001\012", 6, 10);
        refused("P5 1 1 256 \001\001", 6, 11);
        refused("P5 1 1 256 \002", 1, 12);
        refused("P6 1 1 999 \000\001\003\350", 6, 13);
        refused("P5 1 1 255", 1, 10);
        refused("P5 1 1 255 ", 1, 11);
        refused("P5 1 1 255#\n\001", 2, 10);
        refused("P5 1 1 255x", 2, 10);
        refused("P5 1 1 255 ab", 5, 12);
        refused("P6 1 1 255 abcd", 5, 14);
        refused("P5 1 1 256 \000\000\000", 5, 13);
        Check.refusedIfCut("P6", PNM, Bytes.of("P6 1 1 257\n\000\001\000\002\000\003"));
    }

    private static void headers() {
        refused("", 1, 0);
        refused("P", 1, 1);
        refused("Q1 1 1 1", 2, 0);
        refused("p1 1 1 1", 2, 0);
        refused("P0 1 1 1", 2, 1);
        refused("P7 1 1 1", 2, 1);
        refused("P: 1 1 1", 2, 1);
        refused("P 1 1 1", 2, 1);
        refused("P1", 1, 2);
        refused("P11 1 1", 2, 2);
        refused("P1x", 2, 2);
        refused("P1 x", 2, 3);
        refused("P1 ", 1, 3);
        refused("P1 #no end", 1, 10);
        refused("P1 1", 1, 4);
        refused("P1 1x", 2, 4);
        refused("P1 1 x", 2, 5);
        refused("P1 1 -1 1", 2, 5);
        refused("P5 1 1", 1, 6);
        refused("P5 1 1x", 2, 6);
        refused("P5 1 1 x", 2, 7);
        refused("P5 1 1 0 a", 2, 7);
        refused("P2 1 1 0", 2, 7);
        refused("P5 1 1 65536 ab", 2, 7);
        refused("P3 1 1 99999999999 1 1 1", 2, 7);
        taken("P5 1 1 65535 \377\377", 1, gray(255));
        taken("P5 1 1 1 \001", 1, gray(255));
    }

    private static void sizes() {
        refused("P1 0", 2, 3);
        refused("P1 000 1 1", 2, 3);
        refused("P1 1 0", 2, 5);
        refused("P1 4097", 3, 3);
        refused("P1 4097 0", 3, 3);
        refused("P1 99999999999999999999 1", 3, 3);
        refused("P1 4294967297 1 1", 3, 3);
        refused("P1 4096 2", 3, 8);
        refused("P1 64 65 1", 3, 6);
        refused("P5 1 4097x", 3, 5);
        refused("P1 1 4294967297 1", 3, 5);
        refused("P1 4096 1048576 1", 3, 8);
        refused("P1 4096 1", 1, 9);
        refused("P1 1 4096", 1, 9);
        RasterMint x = new RasterMint();
        Check.tape(x, new Bytes().text("P4 4096 1 ").times(511, 0).add(1).file());
        Check.due("4096 x 1", x.read(PNM, 0), 0);
        Check.due("4096 x 1: the last one", x.pixel(0, 4095, 0), BLACK);
    }

    private static void gaps() {
        for (int b = 0; b < 256; b++) {
            boolean blank = b >= 9 && b <= 13 || b == 32;
            String ahead = "P1 1 1" + (char) b + "1";
            if (blank) {
                taken(ahead, 1, BLACK);
                taken("P5 1 1 255" + (char) b + "a", 1, gray('a'));
                taken("P1 1 1 1" + (char) b, 1, BLACK);
            } else if (b != '#' && (b < '0' || b > '9')) {
                refused(ahead, 2, 6);
                refused("P5 1 1 255" + (char) b + "a", 2, 10);
            }
        }
        refused("P1 1 1#1", 1, 8);
        taken("P1#a\n#b\n\n1#\n1#1\n1", 1, BLACK);
        refused("P1 1 1#a\r1", 1, 10);
    }

    private static void facts() {
        Check.told("P1", PNM, Bytes.of("P1 1 1 # 12\n 1"), 1, 1, 6);
        Check.told("P2", PNM, Bytes.of("P2 1 1 9\n\n1"), 2, 9, 8);
        Check.told("P3", PNM, Bytes.of("P3 1 1 99 1 1 1"), 3, 99, 9);
        Check.told("P4", PNM, Bytes.of("P4 1 1 1"), 4, 1, 7);
        Check.told("P5", PNM, Bytes.of("P5#\n1 1 99 1"), 5, 99, 11);
        Check.told("P6", PNM, Bytes.of("P6 1 1 65535 \0\0\0\0\0\0"), 6, 65535, 13);
    }
}
