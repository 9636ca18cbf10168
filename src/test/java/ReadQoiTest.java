/** Promises 5, 6, 7: files of family 0. */
public final class ReadQoiTest {
    private static final int QOI = 0;

    public static void main(String[] args) {
        taken();
        chunks();
        places();
        headers();
        runs();
        endings();
        sizes();
        Check.finish("ReadQoiTest");
    }

    private static Bytes head(int width, int height) {
        return MadeFiles.qoi(width, height, 4);
    }

    private static byte[] file(int width, int height, int... chunks) {
        return head(width, height).add(chunks).times(7, 0).add(1).file();
    }

    private static void taken() {
        byte[] file = file(3, 2, 254, 10, 20, 30, 0x7A, 160, 0x88, 193, 255, 1, 2, 3, 4);
        Check.taken("all kinds", QOI, file, 3, 0x0A141EFF, 0x0B141EFF, 0x0B141EFF, 0x0B141EFF, 0x0B141EFF, 0x01020304);
        Check.told("channels 4, space 0", QOI, file, 4, 0, 5);
        Check.told("channels 3, space 1", QOI, Bytes.with(file, 12, 3, 1), 3, 1, 5);
        Check.refusedIfCut("all kinds", QOI, file);
    }

    private static void chunks() {
        Check.taken("254 keeps alpha", QOI, file(2, 1, 255, 9, 8, 7, 6, 254, 1, 2, 3), 2, 0x09080706, 0x01020306);
        Check.taken("64 goes round below", QOI, file(1, 1, 64), 1, 0xFEFEFEFF);
        Check.taken("127 goes round above", QOI, file(2, 1, 254, 255, 255, 255, 127), 2, -1, 0x000000FF);
        Check.taken("64 .. 127 by colour", QOI, file(2, 1, 255, 9, 9, 9, 1, 64 + 16 * 3 + 4 * 2 + 1), 2,
            0x09090901, 0x0A090801);
        Check.taken("128: the least", QOI, file(2, 1, 255, 50, 60, 70, 3, 128, 0), 2, 0x323C4603,
            (50 - 40) << 24 | (60 - 32) << 16 | (70 - 40) << 8 | 3);
        Check.taken("191: the most", QOI, file(2, 1, 255, 50, 60, 70, 3, 191, 255), 2, 0x323C4603,
            (50 + 38) << 24 | (60 + 31) << 16 | (70 + 38) << 8 | 3);
        Check.taken("128 goes round", QOI, file(1, 1, 128, 0), 1, 216 << 24 | 224 << 16 | 216 << 8 | 255);
        Check.taken("128: red, blue apart", QOI, file(1, 1, 160 + 9, 0x9A), 1, 10 << 24 | 9 << 16 | 11 << 8 | 255);
        Check.taken("192 is once", QOI, file(1, 1, 192), 1, 255);
        int[] black = new int[62];
        java.util.Arrays.fill(black, 255);
        Check.taken("253 is 62 times", QOI, file(62, 1, 253), 62, black);
        Check.taken("rows follow one another in a run", QOI, file(1, 3, 254, 1, 2, 3, 193), 1, 0x010203FF, 0x010203FF,
            0x010203FF);
    }

    private static void places() {
        Check.taken("a place at first", QOI, file(2, 1, 7, 0), 2, 0, 0);
        Check.taken("black stands after a run", QOI, file(3, 1, 192, 254, 1, 1, 1, 53), 3, 255, 0x010101FF, 255);
        int home = (3 * 200 + 5 * 100 + 7 * 50 + 11 * 25) % 64;
        Check.taken("a colour's place", QOI, file(3, 1, 255, 200, 100, 50, 25, 192 + 0, home), 3, 0xC8643219,
            0xC8643219, 0xC8643219);
        Check.taken("a moved colour's place", QOI, file(3, 1, 64, 255, 1, 1, 1, 1,
            (3 * 254 + 5 * 254 + 7 * 254 + 11 * 255) % 64), 3, 0xFEFEFEFF, 0x01010101, 0xFEFEFEFF);
        Check.refused("the same place twice", QOI, file(2, 1, 5, 5), 4, 15);
        Check.refused("place 0 twice", QOI, file(2, 1, 0, 0), 4, 15);
        Check.refused("place 63 twice", QOI, file(2, 1, 63, 63), 4, 15);
        Check.refused("the same place twice, later", QOI, file(4, 1, 192, 53, 53, 192), 4, 16);
        Check.taken("the same place with another chunk between", QOI, file(3, 1, 5, 192, 5), 3, 0, 0, 0);
        Check.taken("two places", QOI, file(2, 1, 5, 6), 2, 0, 0);
        Check.taken("other chunks may come twice", QOI, file(4, 1, 106, 106, 192, 192), 4, 255, 255, 255, 255);
        RasterMint x = new RasterMint();
        for (int k = 0; k < 2; k++) {
            Check.tape(x, file(2, 1, 254, 9, 9, 9, 192));
            Check.due("first reading", x.read(QOI, 0), 0);
            Check.tape(x, file(2, 1, (3 * 9 + 5 * 9 + 7 * 9 + 11 * 255) % 64, 192));
            Check.due("places begin anew", x.read(QOI, 1), 0);
            Check.due("places begin anew: pixel", x.pixel(1, 0, 0), 0);
        }
    }

    private static void headers() {
        byte[] file = file(1, 1, 192);
        for (int place = 0; place < 4; place++) {
            Check.refused("sign " + place, QOI, Bytes.with(file, place, 'Q'), 2, place);
        }
        Check.refused("width 0", QOI, Bytes.with(file, 4, 0, 0, 0, 0), 2, 4);
        Check.refused("height 0", QOI, Bytes.with(file, 8, 0, 0, 0, 0), 2, 8);
        for (int channels : new int[] {0, 1, 2, 5, 255}) {
            Check.refused("channels " + channels, QOI, Bytes.with(file, 12, channels), 2, 12);
        }
        Check.refused("space 2", QOI, Bytes.with(file, 13, 2), 2, 13);
        Check.refused("space 255", QOI, Bytes.with(file, 13, 255), 2, 13);
        Check.refused("an empty tape", QOI, new byte[0], 1, 0);
        Check.refused("another family's file", QOI, Bytes.of("P1 1 1 0"), 2, 0);
        Check.refused("width cut, sign wrong", QOI, Bytes.of("qoiX1"), 2, 3);
        Check.refused("height cut", QOI, new Bytes().text("qoif").high4(0x7FFFFFFF).add(1, 1, 1).file(), 1, 11);
    }

    private static void sizes() {
        Check.refused("4097 pixels", QOI, head(4097, 1).file(), 3, 8);
        Check.refused("1 x 4097", QOI, head(1, 4097).file(), 3, 8);
        Check.refused("64 x 65", QOI, head(64, 65).file(), 3, 8);
        Check.refused("a product that is 0 as an int", QOI, head(65536, 65536).file(), 3, 8);
        Check.refused("a product below 0 as a long", QOI, head(-1, -1).file(), 3, 8);
        Check.refused("a width above 2^31, height 0", QOI, head(-1, 0).file(), 2, 8);
        Check.refused("a width above 2^31", QOI, head(-1, 1).file(), 3, 8);
        Check.refused("size ahead of channels", QOI, Bytes.with(head(64, 65).file(), 12, 9), 3, 8);
        Bytes most = head(64, 64);
        for (int k = 0; k < 66; k++) {
            most.add(253);
        }
        RasterMint x = new RasterMint();
        Check.tape(x, most.add(195, 0, 0, 0, 0, 0, 0, 0, 1).file());
        Check.due("4096 pixels", x.read(QOI, 3), 0);
        Check.due("4096 pixels: chunks", x.told(3), 67);
        Check.due("4096 pixels: the last one", x.pixel(3, 63, 63), 255);
    }

    private static void runs() {
        Check.refused("a run of one too many", QOI, file(2, 2, 196), 4, 14);
        Check.refused("a later run of one too many", QOI, file(2, 2, 194, 193), 4, 15);
        Check.refused("a run of one too many, cut", QOI, head(2, 2).add(196).file(), 4, 14);
        Check.refused("253 in a small one", QOI, file(1, 1, 253), 4, 14);
    }

    private static void endings() {
        byte[] file = file(2, 1, 193);
        for (int k = 0; k < 8; k++) {
            Check.refused("ending " + k, QOI, Bytes.with(file, 15 + k, 2), 2, 15 + k);
        }
        Check.refused("ending 7 is 0", QOI, Bytes.with(file, 22, 0), 2, 22);
        Check.refused("ending 0 is 1", QOI, Bytes.with(file, 15, 1), 2, 15);
        Check.refused("a byte behind", QOI, new Bytes().add(file).add(0).file(), 5, 23);
        Check.refused("bytes behind", QOI, new Bytes().add(file).add(9, 9, 9).file(), 5, 23);
    }
}
