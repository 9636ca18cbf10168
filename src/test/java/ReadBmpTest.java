/** Promises 5, 6, 7: files of family 2. */
public final class ReadBmpTest {
    private static final int BMP = 2;
    private static final int C0 = 0x302010FF;
    private static final int C1 = 0x332211FF;
    private static final int C2 = 0x362412FF;

    public static void main(String[] args) {
        rows();
        headers();
        sizes();
        layout();
        missingColours();
        pairsOfEight();
        pairsOfFour();
        badPairs();
        facts();
        Check.finish("ReadBmpTest");
    }

    private static byte[] file(int width, int height, int bits, int compression, int used, int... data) {
        return MadeFiles.bmp(width, height, bits, compression, used, data);
    }

    private static void taken(String name, byte[] file, int width, int... pixels) {
        Check.taken(name, BMP, file, width, pixels);
    }

    private static void refused(String name, byte[] file, int fault, int place) {
        Check.refused(name, BMP, file, fault, place);
    }

    private static void rows() {
        taken("24 bits", file(1, 2, 24, 0, 0, 1, 2, 3, 77, 4, 5, 6, 78), 1, 0x060504FF, 0x030201FF);
        taken("24 bits, top first", file(1, -2, 24, 0, 0, 1, 2, 3, 77, 4, 5, 6, 78), 1, 0x030201FF, 0x060504FF);
        taken("32 bits", file(2, 1, 32, 0, 0, 1, 2, 3, 0, 4, 5, 6, 255), 2, 0x030201FF, 0x060504FF);
        taken("16 bits", file(2, 1, 16, 0, 0, 0x1F, 0x80, 0xE0, 0x03), 2, 0x0000FFFF, 0x00FF00FF);
        taken("16 bits, filled up", file(1, 1, 16, 0, 0, 0x41, 0x7C, 9, 9), 1, 0xFF1008FF);
        int[] fives = new int[32];
        int[] data = new int[64];
        for (int v = 0; v < 32; v++) {
            fives[v] = (510 * v + 31) / 62 * 256 + 255;
            data[2 * v] = v;
        }
        taken("each value of five bits", file(32, 1, 16, 0, 0, data), 32, fives);
        taken("8 bits", file(3, 2, 8, 0, 3, 0, 1, 2, 9, 2, 1, 0, 9), 3, C2, C1, C0, C0, C1, C2);
        taken("4 bits", file(3, 1, 4, 0, 3, 0x21, 0x0F, 255, 255), 3, C2, C1, C0);
        taken("1 bit", file(9, 1, 1, 0, 0, 0xA1, 0x80, 0, 0), 9, C1, C0, C1, C0, C0, C0, C0, C1, C1);
        taken("1 bit, one colour", file(2, 1, 1, 0, 1, 0x3F, 0, 0, 0), 2, C0, C0);
        taken("8 bits, top first", file(1, -2, 8, 0, 3, 1, 0, 0, 0, 2, 0, 0, 0), 1, C1, C2);
        byte[] all = file(1, 1, 8, 0, 0, 255, 0, 0, 0);
        taken("256 colours", all, 1, (48 + 765 & 255) << 24 | (32 + 510 & 255) << 16 | (16 + 255 & 255) << 8 | 255);
    }

    private static void headers() {
        byte[] file = file(1, 1, 24, 0, 0, 1, 2, 3, 0);
        refused("sign B", Bytes.with(file, 0, 'C'), 2, 0);
        refused("sign M", Bytes.with(file, 1, 'A'), 2, 1);
        refused("n is less", Bytes.with(file, 2, 57), 2, 2);
        refused("n is more", Bytes.with(file, 2, 59), 2, 2);
        refused("n's highest byte", Bytes.with(file, 5, 1), 2, 2);
        refused("6 is not 0", Bytes.with(file, 6, 1), 2, 6);
        refused("6's last byte is not 0", Bytes.with(file, 9, 1), 2, 6);
        refused("14 is not 40", Bytes.with(file, 14, 41), 2, 14);
        refused("14's second byte", Bytes.with(file, 15, 1), 2, 14);
        refused("width 0", Bytes.with(file, 18, 0), 2, 18);
        refused("width below 0", Bytes.with(file, 18, 255, 255, 255, 255), 2, 18);
        refused("height 0", Bytes.with(file, 22, 0), 2, 22);
        refused("26 is not 1", Bytes.with(file, 26, 2), 2, 26);
        refused("26's second byte", Bytes.with(file, 27, 1), 2, 26);
        for (int bits : new int[] {0, 2, 3, 5, 7, 9, 15, 17, 31, 33, 64, 255}) {
            refused("bits " + bits, Bytes.with(file, 28, bits), 2, 28);
        }
        refused("bits' second byte", Bytes.with(file, 29, 1), 2, 28);
        refused("compression 1 of 24 bits", Bytes.with(file, 30, 1), 2, 30);
        refused("compression 3", Bytes.with(file, 30, 3), 2, 30);
        refused("compression's last byte", Bytes.with(file, 33, 1), 2, 30);
        refused("used of 24 bits", Bytes.with(file, 46, 1), 2, 46);
        taken("38, 42, 50 are any", Bytes.with(Bytes.with(file, 38, 1, 2, 3, 4, 5, 6, 7, 8), 50, 9, 9, 9, 9), 1,
            0x030201FF);
        for (int bits : new int[] {1, 4, 16, 24, 32}) {
            refused("compression 1 of " + bits, file(1, 1, bits, 1, 0, 0, 1), 2, 30);
        }
        for (int bits : new int[] {1, 8, 16, 24, 32}) {
            refused("compression 2 of " + bits, file(1, 1, bits, 2, 0, 0, 1), 2, 30);
        }
        refused("compression 1, top first", file(1, -1, 8, 1, 1, 0, 1), 2, 30);
        refused("compression 2, top first", file(1, -1, 4, 2, 1, 0, 1), 2, 30);
        for (int n = 0; n < file.length; n++) {
            byte[] cut = java.util.Arrays.copyOf(file, n);
            if (n >= 6) {
                cut[2] = (byte) n;
            }
            int size = n - 54;
            if (size > 0) {
                cut[34] = (byte) size;
            }
            refused("cut to " + n, cut, n == 54 ? 2 : 1, n == 54 ? 34 : n);
        }
        refused("cut with the old n", java.util.Arrays.copyOf(file, 20), 2, 2);
        refused("n ahead of what is cut", java.util.Arrays.copyOf(file, 6), 2, 2);
    }

    private static void sizes() {
        refused("4097 x 1", file(4097, 1, 24, 0, 0), 3, 22);
        refused("64 x 65", file(64, 65, 8, 0, 0), 3, 22);
        refused("64 x -65", file(64, -65, 8, 0, 0), 3, 22);
        refused("1 x -2^31", file(1, Integer.MIN_VALUE, 8, 0, 0), 3, 22);
        refused("2^31 - 1 x 2^31 - 1", file(Integer.MAX_VALUE, Integer.MAX_VALUE, 8, 0, 0), 3, 22);
        refused("65536 x 65536", file(65536, 65536, 8, 0, 0), 3, 22);
        refused("width 2^31 - 1, height 0", file(Integer.MAX_VALUE, 0, 8, 0, 0), 2, 22);
        refused("4096 x 1 cut", file(4096, 1, 1, 0, 0, 1), 1, 63);
        RasterMint x = new RasterMint();
        Check.tape(x, file(64, 64, 1, 0, 0, new int[512]));
        Check.due("64 x 64", x.read(BMP, 0), 0);
        Check.due("64 x 64: the last one", x.pixel(0, 63, 63), C0);
    }

    private static byte[] laid(int offset, int size, int used) {
        return new Bytes().text("BM").low4(70, 0, offset, 40, 1, 1).low2(1, 8).low4(0, size, 0, 0, used, 0)
            .add(16, 32, 48, 0, 17, 34, 51, 0).times(8, 1).file();
    }

    private static void layout() {
        taken("offset 66", laid(66, 4, 2), 1, C1);
        taken("size 0", laid(66, 0, 2), 1, C1);
        taken("a gap ahead of the data", laid(66, 4, 1 + 1), 1, C1);
        refused("more data than rows", laid(62, 8, 2), 5, 66);
        refused("offset inside of the colours", laid(61, 9, 2), 2, 10);
        refused("offset 54 with colours", laid(54, 16, 2), 2, 10);
        refused("offset 0", laid(0, 70, 2), 2, 10);
        refused("offset below 0", laid(-1, 71, 2), 2, 10);
        refused("offset behind the end", laid(71, 0, 2), 2, 10);
        refused("offset at the end", laid(70, 0, 2), 1, 70);
        refused("used 0 counts as 256", laid(66, 4, 0), 2, 10);
        refused("size too small", laid(66, 3, 2), 2, 34);
        refused("size too large", laid(66, 5, 2), 2, 34);
        refused("size below 0", laid(66, -4, 2), 2, 34);
        refused("offset ahead of size", laid(61, 5, 2), 2, 10);
        refused("257 colours", laid(66, 4, 257), 2, 46);
        refused("colours below 0", laid(66, 4, -1), 2, 46);
        refused("3 colours of 1 bit", Bytes.with(laid(66, 4, 3), 28, 1), 2, 46);
        refused("17 colours of 4 bits", Bytes.with(laid(66, 4, 17), 28, 4), 2, 46);
        refused("size 0 with compression 1", Bytes.with(laid(66, 0, 2), 30, 1), 2, 34);
        refused("no data with compression 1", Bytes.with(laid(70, 0, 2), 30, 1), 1, 70);
        byte[] wide = new Bytes().text("BM").low4(62, 0, 58, 40, 1, 1).low2(1, 24).low4(0, 4, 0, 0, 0, 0)
            .add(9, 9, 9, 9, 1, 2, 3, 0).file();
        taken("24 bits with a gap", wide, 1, 0x030201FF);
        refused("offset 53 of 24 bits", Bytes.with(wide, 10, 53), 2, 10);
        refused("a byte behind", file(1, 1, 24, 0, 0, 1, 2, 3, 0, 9), 5, 58);
        refused("a row not filled up", file(1, 1, 24, 0, 0, 1, 2, 3), 1, 57);
    }

    private static void missingColours() {
        refused("8 bits", file(3, 1, 8, 0, 2, 1, 2, 0, 0), 6, 63);
        refused("8 bits, the bottom row first", file(1, 2, 8, 0, 2, 9, 0, 0, 0, 8, 0, 0, 0), 6, 62);
        refused("4 bits, the higher four", file(2, 1, 4, 0, 2, 0x21, 0, 0, 0), 6, 62);
        refused("4 bits, the lower four", file(4, 1, 4, 0, 2, 0x11, 0x02, 0, 0), 6, 63);
        refused("1 bit", file(2, 1, 1, 0, 1, 0x40, 0, 0, 0), 6, 58);
        taken("filling is not asked", file(1, 1, 4, 0, 2, 0x1F, 255, 255, 255), 1, C1);
        refused("ahead of the end", file(2, 1, 8, 0, 2, 2), 6, 62);
        refused("like ones", file(5, 1, 8, 1, 2, 5, 2, 0, 1), 6, 63);
        refused("unlike ones", file(5, 1, 8, 1, 2, 0, 4, 1, 1, 2, 1, 0, 1), 6, 66);
        refused("unlike ones ahead of the end", file(5, 1, 8, 1, 2, 0, 4, 1, 2), 6, 65);
        refused("like ones of four bits", file(5, 1, 4, 2, 2, 5, 0x12, 0, 1), 6, 63);
        taken("one like one of four bits", file(1, 1, 4, 2, 2, 1, 0x12, 0, 1), 1, C1);
        refused("unlike ones of four bits", file(5, 1, 4, 2, 2, 0, 4, 0x11, 0x12, 0, 1), 6, 65);
        taken("three unlike ones of four bits", file(3, 1, 4, 2, 2, 0, 3, 0x10, 0x1F, 0, 1), 3, C1, C0, C1);
    }

    private static void pairsOfEight() {
        taken("like ones", file(3, 2, 8, 1, 3, 3, 1, 0, 0, 2, 2, 1, 0, 0, 1), 3, C2, C2, C0, C1, C1, C1);
        taken("unlike ones, odd", file(3, 1, 8, 1, 3, 0, 3, 2, 1, 0, 77, 0, 1), 3, C2, C1, C0);
        taken("unlike ones, even", file(4, 1, 8, 1, 3, 0, 4, 2, 1, 0, 1, 0, 1), 4, C2, C1, C0, C1);
        taken("not come to", file(2, 2, 8, 1, 3, 0, 1), 2, C0, C0, C0, C0);
        taken("moved", file(3, 3, 8, 1, 3, 1, 1, 0, 2, 1, 1, 1, 2, 0, 1), 3, C0, C0, C0, C0, C0, C2, C1, C0, C0);
        taken("moved by nothing", file(1, 1, 8, 1, 3, 0, 2, 0, 0, 1, 2, 0, 1), 1, C2);
        taken("moved to the row's end", file(2, 1, 8, 1, 3, 0, 2, 2, 0, 0, 1), 2, C0, C0);
        taken("moved to the row's end, up", file(2, 2, 8, 1, 3, 2, 1, 0, 2, 0, 1, 0, 0, 0, 1), 2, C0, C0, C1, C1);
        taken("a row left early", file(2, 2, 8, 1, 3, 1, 1, 0, 0, 1, 2, 0, 1), 2, C2, C0, C1, C0);
        taken("0, 0 behind the top row", file(1, 1, 8, 1, 3, 1, 1, 0, 0, 0, 1), 1, C1);
        int[] white = new int[255];
        java.util.Arrays.fill(white, C2);
        taken("255 like ones", file(255, 1, 8, 1, 3, 255, 2, 0, 1), 255, white);
    }

    private static void pairsOfFour() {
        taken("like ones", file(5, 1, 4, 2, 3, 5, 0x12, 0, 1), 5, C1, C2, C1, C2, C1);
        taken("each pair begins with the higher four", file(4, 1, 4, 2, 3, 1, 0x12, 3, 0x12, 0, 1), 4, C1, C1, C2, C1);
        taken("3 unlike ones", file(3, 1, 4, 2, 3, 0, 3, 0x21, 0x0F, 0, 1), 3, C2, C1, C0);
        taken("4 unlike ones", file(4, 1, 4, 2, 3, 0, 4, 0x21, 0x01, 0, 1), 4, C2, C1, C0, C1);
        taken("5 unlike ones", file(5, 1, 4, 2, 3, 0, 5, 0x21, 0x01, 0x20, 77, 0, 1), 5, C2, C1, C0, C1, C2);
        taken("6 unlike ones", file(6, 1, 4, 2, 3, 0, 6, 0x21, 0x01, 0x20, 77, 0, 1), 6, C2, C1, C0, C1, C2, C0);
        taken("moved", file(2, 2, 4, 2, 3, 0, 2, 1, 1, 1, 0x10, 0, 1), 2, C0, C1, C0, C0);
    }

    private static void badPairs() {
        refused("like ones too far", file(2, 1, 8, 1, 3, 3, 1, 0, 1), 4, 66);
        refused("like ones too far, later", file(2, 1, 8, 1, 3, 1, 1, 2, 1, 0, 1), 4, 68);
        refused("like ones too far, without a colour", file(2, 1, 8, 1, 3, 3, 9, 0, 1), 4, 66);
        refused("unlike ones too far", file(2, 1, 8, 1, 3, 0, 3, 1, 1, 1, 0, 0, 1), 4, 66);
        refused("unlike ones too far, cut", file(2, 1, 8, 1, 3, 0, 3), 4, 66);
        refused("unlike ones too far, without a colour", file(2, 1, 8, 1, 3, 0, 3, 9, 9, 9, 0, 0, 1), 4, 66);
        refused("like ones in no row", file(2, 1, 8, 1, 3, 0, 0, 1, 1, 0, 1), 4, 68);
        refused("unlike ones in no row", file(3, 1, 8, 1, 3, 0, 0, 0, 3, 1, 1, 1, 0, 0, 1), 4, 68);
        refused("0, 0 in no row", file(2, 1, 8, 1, 3, 0, 0, 0, 0, 0, 1), 4, 68);
        refused("moved too far right", file(2, 1, 8, 1, 3, 0, 2, 3, 0, 0, 1), 4, 66);
        refused("moved too far up", file(2, 1, 8, 1, 3, 0, 2, 0, 1, 0, 1), 4, 66);
        refused("moved by nothing in no row", file(2, 1, 8, 1, 3, 0, 0, 0, 2, 0, 0, 0, 1), 4, 68);
        refused("moved, cut ahead of x", file(2, 1, 8, 1, 3, 0, 2), 1, 68);
        refused("moved, cut ahead of y", file(2, 1, 8, 1, 3, 0, 2, 9), 1, 69);
        refused("a pixel behind the row's end", file(2, 1, 8, 1, 3, 0, 2, 2, 0, 1, 1, 0, 1), 4, 70);
        refused("a pair cut", file(2, 1, 8, 1, 3, 9), 1, 67);
        refused("no end of the data", file(2, 1, 8, 1, 3, 2, 1), 1, 68);
        refused("unlike ones cut", file(3, 1, 8, 1, 3, 0, 3, 1, 1), 1, 70);
        refused("unlike ones' filling cut", file(3, 1, 8, 1, 3, 0, 3, 1, 1, 1), 1, 71);
        refused("unlike ones of four bits cut", file(5, 1, 4, 2, 3, 0, 5, 0x11, 0x11, 0x11), 1, 71);
        refused("a byte behind", file(2, 1, 8, 1, 3, 0, 1, 0), 5, 68);
        refused("a pair behind", file(2, 1, 4, 2, 3, 0, 1, 0, 1), 5, 68);
        refused("like ones of four bits too far", file(2, 1, 4, 2, 3, 3, 0x11, 0, 1), 4, 66);
        refused("unlike ones of four bits too far", file(3, 1, 4, 2, 3, 0, 4, 0x11, 0x11, 0, 1), 4, 66);
    }

    private static void facts() {
        Check.told("24 bits", BMP, file(1, 1, 24, 0, 0, 1, 2, 3, 4), 24, 0, 0);
        Check.told("16 bits", BMP, file(1, 1, 16, 0, 0, 1, 2, 3, 4), 16, 0, 0);
        Check.told("8 bits", BMP, file(1, 1, 8, 0, 7, 1, 2, 3, 4), 8, 0, 7);
        Check.told("8 bits, used 0", BMP, file(1, 1, 8, 1, 0, 0, 1), 8, 1, 256);
        Check.told("4 bits, used 0", BMP, file(1, 1, 4, 2, 0, 0, 1), 4, 2, 16);
        Check.told("1 bit, used 0", BMP, file(1, 1, 1, 0, 0, 0, 0, 0, 0), 1, 0, 2);
    }
}
