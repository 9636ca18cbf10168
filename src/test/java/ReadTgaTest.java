/** Promises 5, 6, 7: files of family 3. */
public final class ReadTgaTest {
    private static final int TGA = 3;

    public static void main(String[] args) {
        colours();
        entries();
        orders();
        packets();
        headers();
        footers();
        facts();
        Check.finish("ReadTgaTest");
    }

    private static Bytes head(int type, int width, int height, int bits, int flags) {
        return MadeFiles.tga(type, width, height, bits, flags);
    }

    private static Bytes mapped(int type, int from, int many, int deep, int width, int flags) {
        return MadeFiles.tgaMapped(type, from, many, deep, width, flags);
    }

    private static void taken(String name, Bytes file, int width, int... pixels) {
        Check.taken(name, TGA, file.file(), width, pixels);
    }

    private static void refused(String name, Bytes file, int fault, int place) {
        Check.refused(name, TGA, file.file(), fault, place);
    }

    private static void colours() {
        taken("24 bits", head(2, 2, 1, 24, 32).add(1, 2, 3, 4, 5, 6), 2, 0x030201FF, 0x060504FF);
        taken("32 bits, alpha", head(2, 2, 1, 32, 40).add(1, 2, 3, 4, 5, 6, 7, 0), 2, 0x03020104, 0x07060500);
        taken("32 bits, no alpha", head(2, 1, 1, 32, 32).add(1, 2, 3, 4), 1, 0x030201FF);
        taken("16 bits, no alpha", head(2, 2, 1, 16, 32).add(0x1F, 0, 0, 0xFC), 2, 0x0000FFFF, 0xFF0000FF);
        taken("16 bits, alpha", head(2, 2, 1, 16, 33).add(0xE0, 3, 0x21, 0x84), 2, 0x00FF0000, 0x080808FF);
        taken("gray", head(3, 2, 1, 8, 32).add(0, 200), 2, 0x000000FF, 0xC8C8C8FF);
        byte[] file = head(2, 1, 2, 24, 0).add(1, 2, 3, 4, 5, 6).file();
        Check.refusedIfCut("24 bits", TGA, file);
        Check.refusedIfCut("16 bits", TGA, head(10, 2, 1, 16, 0).add(1, 1, 2, 3, 4).file());
    }

    private static void entries() {
        taken("entries of 24", mapped(1, 0, 2, 24, 3, 32).add(1, 2, 3, 4, 5, 6, 1, 0, 1), 3, 0x060504FF, 0x030201FF,
            0x060504FF);
        taken("entries of 32", mapped(1, 0, 2, 32, 2, 40).add(1, 2, 3, 4, 5, 6, 7, 8, 1, 0), 2, 0x07060508, 0x03020104);
        taken("entries of 32, no alpha", mapped(1, 0, 1, 32, 1, 32).add(1, 2, 3, 4, 0), 1, 0x030201FF);
        taken("entries of 15", mapped(1, 0, 2, 15, 2, 32).add(0x1F, 0, 0, 0x7C, 1, 0), 2, 0xFF0000FF, 0x0000FFFF);
        taken("entries of 16, alpha", mapped(1, 0, 2, 16, 2, 33).add(0x1F, 0, 0, 0xFC, 1, 0), 2, 0xFF0000FF, 0x0000FF00);
        taken("first is 254", mapped(1, 254, 2, 24, 2, 32).add(1, 2, 3, 4, 5, 6, 254, 255), 2, 0x030201FF, 0x060504FF);
        taken("first is 10", mapped(9, 10, 2, 24, 2, 32).add(1, 2, 3, 4, 5, 6, 129, 11), 2, 0x060504FF, 0x060504FF);
        refused("below first", mapped(1, 10, 2, 24, 2, 32).add(1, 2, 3, 4, 5, 6, 10, 9), 6, 25);
        refused("behind the last", mapped(1, 10, 2, 24, 2, 32).add(1, 2, 3, 4, 5, 6, 12, 10), 6, 24);
        refused("no entry, ahead of the end", mapped(1, 0, 1, 24, 2, 32).add(1, 2, 3, 1), 6, 21);
        refused("first is above each byte", mapped(1, 256, 1, 24, 1, 32).add(1, 2, 3, 255), 6, 21);
        refused("no entry in a packet of like ones", mapped(9, 0, 1, 24, 2, 32).add(1, 2, 3, 129, 1), 6, 22);
        refused("no entry in a packet", mapped(9, 0, 1, 24, 2, 32).add(1, 2, 3, 1, 0, 1), 6, 23);
        refused("entries cut", mapped(1, 0, 2, 24, 2, 32).add(1, 2, 3, 4, 5), 1, 23);
        refused("65535 entries", mapped(1, 65535, 65535, 32, 1, 32).add(1, 2, 3), 1, 21);
        taken("300 entries", mapped(1, 0, 300, 16, 1, 32).times(598, 0).add(255, 127, 5), 1, 0x000000FF);
        taken("a map that is not asked", mapped(3, 7, 1, 32, 1, 32).add(1, 2, 3, 4, 9), 1, 0x090909FF);
        taken("a map of 15 with colours", new Bytes().add(2, 1, 2).low2(7, 1).add(15).low2(0, 0, 1, 1).add(24, 32)
            .add(70, 71).add(1, 2).add(5, 6, 7), 1, 0x070605FF);
    }

    private static void orders() {
        int[] file = {1, 2, 3, 4, 5, 6};
        int[] g = new int[7];
        for (int v = 1; v < 7; v++) {
            g[v] = v * 0x01010100 + 255;
        }
        taken("bottom, left", head(3, 3, 2, 8, 0).add(file), 3, g[4], g[5], g[6], g[1], g[2], g[3]);
        taken("bottom, right", head(3, 3, 2, 8, 16).add(file), 3, g[6], g[5], g[4], g[3], g[2], g[1]);
        taken("top, left", head(3, 3, 2, 8, 32).add(file), 3, g[1], g[2], g[3], g[4], g[5], g[6]);
        taken("top, right", head(3, 3, 2, 8, 48).add(file), 3, g[3], g[2], g[1], g[6], g[5], g[4]);
        taken("packets, bottom, right", head(11, 3, 2, 8, 16).add(129, 1, 0, 3, 2, 4, 5, 6), 3, g[6], g[5], g[4], g[3],
            g[1], g[1]);
        taken("a note", new Bytes().add(3, 0, 3).low2(0, 0).add(0).low2(0, 0, 1, 1).add(8, 32).text("abc").add(1), 1,
            g[1]);
        refused("a note that is cut", new Bytes().add(3, 0, 3).low2(0, 0).add(0).low2(0, 0, 1, 1).add(8, 32).text("ab"),
            1, 20);
    }

    private static void packets() {
        taken("like ones of 24", head(10, 3, 1, 24, 32).add(130, 1, 2, 3), 3, 0x030201FF, 0x030201FF, 0x030201FF);
        taken("unlike ones of 24", head(10, 2, 1, 24, 32).add(1, 1, 2, 3, 4, 5, 6), 2, 0x030201FF, 0x060504FF);
        taken("one of 32", head(10, 1, 1, 32, 40).add(128, 1, 2, 3, 4), 1, 0x03020104);
        taken("one of 32 as it is", head(10, 1, 1, 32, 40).add(0, 1, 2, 3, 4), 1, 0x03020104);
        int[] all = new int[128];
        java.util.Arrays.fill(all, 0x070707FF);
        taken("128 like ones", head(11, 128, 1, 8, 32).add(255, 7), 128, all);
        taken("128 unlike ones", head(11, 128, 1, 8, 32).add(127).times(128, 7), 128, all);
        refused("like ones over the row's end", head(11, 2, 2, 8, 32).add(130, 1, 128, 1), 4, 18);
        refused("unlike ones over the row's end", head(11, 2, 2, 8, 32).add(2, 1, 1, 1, 0, 1), 4, 18);
        refused("over the row's end, cut", head(11, 2, 2, 8, 32).add(130), 4, 18);
        refused("over the second row's end", head(11, 2, 2, 8, 32).add(129, 1, 128, 1, 129, 1), 4, 22);
        refused("over the end, without an entry", mapped(9, 0, 1, 24, 1, 32).add(1, 2, 3, 1, 9), 4, 21);
        refused("no packet", head(11, 2, 2, 8, 32), 1, 18);
        refused("a packet cut", head(10, 2, 1, 24, 32).add(129, 1, 2), 1, 21);
    }

    private static void headers() {
        byte[] plain = head(2, 1, 1, 24, 32).add(1, 2, 3).file();
        byte[] mapped = mapped(1, 0, 1, 24, 1, 32).add(1, 2, 3, 0).file();
        bad("map 2", plain, 1, 2);
        bad("map 255", plain, 1, 255);
        for (int type : new int[] {0, 4, 5, 6, 7, 8, 12, 13, 16, 17, 18, 32, 33, 129, 255}) {
            bad("type " + type, plain, 2, type);
            bad("type " + type + " with a map", mapped, 2, type);
        }
        bad("type 1 without a map", plain, 2, 1);
        bad("type 9 without a map", plain, 2, 9);
        bad("first without a map", plain, 3, 1);
        refused("first's second byte without a map", new Bytes().add(Bytes.with(plain, 4, 1)), 2, 3);
        bad("many without a map", plain, 5, 1);
        refused("many's second byte without a map", new Bytes().add(Bytes.with(plain, 6, 1)), 2, 5);
        bad("deep without a map", plain, 7, 24);
        bad("many 0 with a map", mapped, 5, 0);
        for (int deep : new int[] {0, 1, 8, 14, 17, 23, 25, 31, 33, 255}) {
            bad("deep " + deep, mapped, 7, deep);
        }
        bad("width 0", plain, 12, 0);
        bad("height 0", plain, 14, 0);
        for (int bits : new int[] {0, 1, 8, 15, 17, 23, 31, 33, 255}) {
            bad("bits " + bits + " of type 2", plain, 16, bits);
            bad("bits " + bits + " of type 10", Bytes.with(plain, 2, 10), 16, bits);
        }
        for (int type : new int[] {1, 3, 9, 11}) {
            for (int bits : new int[] {0, 7, 9, 15, 16, 24, 32}) {
                bad("bits " + bits + " of type " + type, Bytes.with(mapped, 2, type), 16, bits);
            }
        }
        flags();
        refused("4097 x 1", head(2, 4097, 1, 24, 0), 3, 14);
        refused("64 x 65", head(2, 64, 65, 99, 99), 3, 14);
        refused("65535 x 65535", head(2, 65535, 65535, 24, 0), 3, 14);
        refused("65535 x 0", head(2, 65535, 0, 24, 0), 2, 14);
        refused("64 x 64, cut", head(3, 64, 64, 8, 0).times(4095, 1), 1, 18 + 4095);
        refused("an empty tape", new Bytes(), 1, 0);
    }

    private static void bad(String name, byte[] file, int place, int value) {
        Check.refused(name, TGA, Bytes.with(file, place, value), 2, place);
    }

    private static void flags() {
        for (int alpha = 0; alpha < 16; alpha++) {
            for (int bits : new int[] {16, 24, 32}) {
                boolean can = alpha == 0 || alpha == 8 && bits == 32 || alpha == 1 && bits == 16;
                byte[] file = head(2, 1, 1, bits, 32 + alpha).times(bits / 8, 255).file();
                flag("bits " + bits + ", alpha " + alpha, file, can);
            }
            for (int deep : new int[] {15, 16, 24, 32}) {
                boolean can = alpha == 0 || alpha == 8 && deep == 32 || alpha == 1 && deep == 16;
                byte[] file = mapped(1, 0, 1, deep, 1, 32 + alpha).times((deep + 7) / 8, 255).add(0).file();
                flag("deep " + deep + ", alpha " + alpha, file, can);
                byte[] gray = mapped(3, 0, 1, deep, 1, 32 + alpha).times((deep + 7) / 8, 255).add(255).file();
                flag("gray, deep " + deep + ", alpha " + alpha, gray, alpha == 0);
            }
        }
        flag("bit 64", head(2, 1, 1, 24, 64).add(1, 2, 3).file(), false);
        flag("bit 128", head(2, 1, 1, 24, 128).add(1, 2, 3).file(), false);
        flag("bit 128 and 32", head(2, 1, 1, 24, 160).add(1, 2, 3).file(), false);
    }

    private static void flag(String name, byte[] file, boolean can) {
        if (can) {
            Check.taken(name, TGA, file, 1, -1);
        } else {
            Check.refused(name, TGA, file, 2, 17);
        }
    }

    private static Bytes one() {
        return head(3, 1, 1, 8, 0).add(9);
    }

    private static void footers() {
        byte[] file = one().times(8, 0).text("TRUEVISION-XFILE.").add(0).file();
        Check.taken("a footer", TGA, file, 1, 0x090909FF);
        for (int place = 19; place < file.length; place++) {
            Check.refused("footer's " + place, TGA, Bytes.with(file, place, file[place] + 1), 5, 19);
        }
        for (int n = 20; n < file.length; n++) {
            Check.refused("footer cut to " + n, TGA, java.util.Arrays.copyOf(file, n), 5, 19);
        }
        refused("a byte behind the footer", new Bytes().add(file).add(0), 5, 19);
        refused("a byte behind", one().add(0), 5, 19);
        refused("26 bytes behind", one().times(26, 0), 5, 19);
    }

    private static void facts() {
        Check.told("type 2", TGA, head(2, 1, 1, 24, 0).add(1, 2, 3).file(), 2, 24, 0);
        Check.told("type 3", TGA, head(3, 2, 1, 8, 0).add(1, 2).file(), 3, 8, 0);
        Check.told("type 1", TGA, mapped(1, 0, 1, 32, 1, 0).add(1, 2, 3, 4, 0).file(), 1, 8, 0);
        Check.told("type 9", TGA, mapped(9, 0, 1, 32, 2, 0).add(1, 2, 3, 4, 0, 0, 0, 0).file(), 9, 8, 2);
        Check.told("type 10", TGA, head(10, 2, 1, 16, 0).add(129, 1, 2).file(), 10, 16, 1);
        Check.told("type 11", TGA, head(11, 2, 2, 8, 0).add(128, 1, 0, 2, 129, 3).file(), 11, 8, 3);
    }
}
