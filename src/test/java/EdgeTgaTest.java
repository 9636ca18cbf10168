import java.util.Arrays;

/** Each sentence of family 3 that names a bound: the last that is taken, the first that is not. */
public final class EdgeTgaTest {
    private static final int TGA = 3;

    public static void main(String[] args) {
        maps();
        types();
        mapFields();
        wholeFields();
        anyFields();
        sides();
        pixels();
        depths();
        flags();
        notes();
        manyEntries();
        entriesThereAndNot();
        widthsOfEntries();
        alphas();
        packetSizes();
        packetsAndRows();
        ordersOfFaults();
        footers();
        cuts();
        facts();
        Check.finish("EdgeTgaTest");
    }

    private static Bytes head(int type, int width, int height, int bits, int flags) {
        return MadeFiles.tga(type, width, height, bits, flags);
    }

    private static Bytes mapped(int type, int from, int many, int deep, int width, int flags) {
        return MadeFiles.tgaMapped(type, from, many, deep, width, flags);
    }

    private static int gray(int v) {
        return MadeFiles.gray(v);
    }

    private static int[] repeat(int many, int v) {
        return MadeFiles.repeat(many, v);
    }

    private static void taken(String name, Bytes file, int width, int... pixels) {
        Check.taken(name, TGA, file.file(), width, pixels);
    }

    private static void refused(String name, Bytes file, int fault, int place) {
        Check.refused(name, TGA, file.file(), fault, place);
    }

    private static void refused(String name, byte[] file, int fault, int place) {
        Check.refused(name, TGA, file, fault, place);
    }

    /** "1: MAP 0 or 1". */
    private static void maps() {
        byte[] plain = head(3, 1, 1, 8, 32).add(9).file();
        for (int map = 0; map < 256; map++) {
            byte[] file = Bytes.with(plain, 1, map);
            if (map == 0) {
                Check.taken("map 0", TGA, file, 1, gray(9));
            } else {
                // With a MAP of 1 the MANY of 0 can't be.
                refused("map " + map, file, 2, map == 1 ? 5 : 1);
            }
        }
    }

    /** "2: TYPE 1, 2, 3, 9, 10, 11, of these 1 and 9 with MAP 1". */
    private static void types() {
        for (int type = 0; type < 256; type++) {
            boolean indexed = type == 1 || type == 9;
            boolean coloured = type == 2 || type == 10;
            boolean gray = type == 3 || type == 11;
            int bits = coloured ? 24 : 8;
            Bytes bare = head(type, 1, 1, bits, 32);
            Bytes map = new Bytes().add(0, 1, type).low2(0, 1).add(24).low2(0, 0, 1, 1).add(bits, 32).add(1, 2, 3);
            if (type > 8) {
                bare.add(0);
                map.add(0);
            }
            bare.add(repeat(bits / 8, 0));
            map.add(repeat(bits / 8, 0));
            if (coloured || gray) {
                taken("type " + type, bare, 1, 255);
            } else {
                refused("type " + type, bare, 2, 2);
            }
            if (indexed || coloured || gray) {
                taken("type " + type + " with a map", map, 1, indexed ? 0x030201FF : 255);
            } else {
                refused("type " + type + " with a map", map, 2, 2);
            }
        }
        refused("map ahead of type", new Bytes().add(0, 2, 0), 2, 1);
        refused("type as soon as it is there", new Bytes().add(0, 0, 1), 2, 2);
    }

    /** "MAP 0: all three 0; MAP 1: MANY from 1 on, DEEP 15, 16, 24, 32". */
    private static void mapFields() {
        byte[] bare = head(3, 1, 1, 8, 32).add(9).file();
        int[] firsts = {3, 3, 5, 5, 7};
        for (int place = 3; place < 8; place++) {
            Check.eachValue("no map, place " + place, TGA, bare, place, 2, firsts[place - 3], 0);
        }
        for (int deep = 0; deep < 256; deep++) {
            boolean can = deep == 15 || deep == 16 || deep == 24 || deep == 32;
            Bytes file = mapped(3, 0, 1, deep, 1, 32).times((deep + 7) / 8, 0).add(9);
            if (can) {
                taken("deep " + deep, file, 1, gray(9));
            } else {
                refused("deep " + deep, file, 2, 7);
            }
        }
        refused("many 0 with a map", mapped(3, 0, 0, 24, 1, 32).add(9), 2, 5);
        taken("many 1 with a map", mapped(3, 0, 1, 24, 1, 32).add(1, 2, 3).add(9), 1, gray(9));
        taken("many 256 with a map", mapped(3, 0, 256, 16, 1, 32).times(512, 1).add(9), 1, gray(9));
        taken("first 65535 with a map", mapped(3, 65535, 1, 16, 1, 32).times(2, 1).add(9), 1, gray(9));
        refused("first ahead of many", Bytes.with(bare, 3, 1, 0, 1), 2, 3);
        refused("many ahead of deep", Bytes.with(bare, 5, 1, 0, 1), 2, 5);
        refused("many ahead of deep with a map", mapped(3, 0, 0, 9, 1, 32), 2, 5);
    }

    /** "each whole (1 ahead of 2)": fields of two bytes. */
    private static void wholeFields() {
        int[][] fields = {{3, 1}, {5, 1}, {12, 0}, {14, 0}};
        byte[] bare = head(3, 1, 1, 8, 32).add(9).file();
        for (int[] field : fields) {
            byte[] file = Bytes.with(bare, field[0], field[1]);
            refused("half a field at " + field[0], Arrays.copyOf(file, field[0] + 1), 1, field[0] + 1);
            refused("a whole field at " + field[0], Arrays.copyOf(file, field[0] + 2), 2, field[0]);
        }
        refused("half a many of 0", Arrays.copyOf(mapped(3, 0, 0, 24, 1, 32).file(), 6), 1, 6);
        refused("half a height that is too much", Arrays.copyOf(head(3, 65, 64, 8, 32).file(), 15), 1, 15);
    }

    /** "8, 10 (2 each): any". */
    private static void anyFields() {
        byte[] bare = head(3, 1, 1, 8, 32).add(9).file();
        for (int place = 8; place < 12; place++) {
            for (int v : new int[] {0, 1, 127, 128, 255}) {
                Check.taken("place " + place + " of " + v, TGA, Bytes.with(bare, place, v), 1, gray(9));
            }
        }
    }

    /** "12, 14 (2 each): WIDTH, HEIGHT from 1 on". */
    private static void sides() {
        taken("1 x 1", head(3, 1, 1, 8, 0).add(7), 1, gray(7));
        refused("0 x 1", head(3, 0, 1, 8, 0).add(7), 2, 12);
        refused("1 x 0", head(3, 1, 0, 8, 0).add(7), 2, 14);
        refused("0 x 0", head(3, 0, 0, 8, 0).add(7), 2, 12);
        refused("0 x 65535", head(3, 0, 65535, 8, 0).add(7), 2, 12);
        refused("65535 x 0", head(3, 65535, 0, 8, 0).add(7), 2, 14);
        Check.sized("256 x 1", TGA, head(3, 256, 1, 8, 0).times(256, 7).file(), 256, 1, gray(7), gray(7));
        Check.sized("1 x 256", TGA, head(3, 1, 256, 8, 0).times(256, 7).file(), 1, 256, gray(7), gray(7));
    }

    /** "3 more than 4096 PIXELS (at the HEIGHT's first byte)". */
    private static void pixels() {
        for (int[] size : new int[][] {{4096, 1}, {1, 4096}, {64, 64}, {4095, 1}, {63, 65}, {2, 2048}}) {
            Check.sized(size[0] + " x " + size[1], TGA, head(3, size[0], size[1], 8, 0).times(size[0] * size[1], 7).file(),
                size[0], size[1], gray(7), gray(7));
        }
        for (int[] size : new int[][] {{4097, 1}, {1, 4097}, {17, 241}, {64, 65}, {65, 64}, {4096, 2}, {65535, 1},
            {1, 65535}, {65535, 65535}, {32768, 32768}}) {
            refused(size[0] + " x " + size[1], head(3, size[0], size[1], 8, 0).times(5000, 7), 3, 14);
            refused("ahead of bits: " + size[0] + " x " + size[1], head(3, size[0], size[1], 9, 255), 3, 14);
        }
    }

    /** "16: BITS: of TYPES 1, 3, 9, 11 8, else 16, 24, 32". */
    private static void depths() {
        for (int type : new int[] {1, 2, 3, 9, 10, 11}) {
            boolean direct = type % 8 == 2;
            for (int bits = 0; bits < 256; bits++) {
                boolean can = direct ? bits == 16 || bits == 24 || bits == 32 : bits == 8;
                Bytes file = new Bytes().add(0, 1, type).low2(0, 1).add(24).low2(0, 0, 1, 1).add(bits, 32).add(1, 2, 3);
                refused("type " + type + ", bits " + bits, file, can ? 1 : 2, can ? 21 : 16);
            }
        }
        refused("bits ahead of 17", head(3, 1, 1, 9, 255), 2, 16);
    }

    /** "17: its bits 64 and 128 are 0; its lowest four, ALPHA: .. of 32 bits 0 or 8, of 16 bits 0 or 1, else 0." */
    private static void flags() {
        for (int v = 0; v < 256; v++) {
            int alpha = v % 16;
            boolean high = v >= 64;
            for (int bits : new int[] {16, 24, 32}) {
                boolean can = !high && (alpha == 0 || alpha == 8 && bits == 32 || alpha == 1 && bits == 16);
                Bytes file = head(2, 1, 1, bits, v).times(bits / 8, 255);
                flag("bits " + bits, v, file, can, -1);
                flag("bits " + bits + ", packets", v, head(10, 1, 1, bits, v).add(0).times(bits / 8, 255), can, -1);
            }
            for (int deep : new int[] {15, 16, 24, 32}) {
                boolean can = !high && (alpha == 0 || alpha == 8 && deep == 32 || alpha == 1 && deep == 16);
                flag("deep " + deep, v, mapped(1, 0, 1, deep, 1, v).times((deep + 7) / 8, 255).add(0), can, -1);
                flag("deep " + deep + ", packets", v, mapped(9, 0, 1, deep, 1, v).times((deep + 7) / 8, 255).add(0, 0),
                    can, -1);
                Bytes gray = mapped(3, 0, 1, deep, 1, v).times((deep + 7) / 8, 255).add(9);
                flag("gray, deep " + deep, v, gray, !high && alpha == 0, gray(9));
                Bytes direct = new Bytes().add(0, 1, 2).low2(0, 1).add(deep).low2(0, 0, 1, 1).add(24, v)
                    .times((deep + 7) / 8 + 3, 255);
                flag("24 bits, deep " + deep, v, direct, !high && alpha == 0, -1);
            }
            flag("gray", v, head(3, 1, 1, 8, v).add(9), !high && alpha == 0, gray(9));
        }
    }

    private static void flag(String name, int v, Bytes file, boolean can, int pixel) {
        if (can) {
            taken(name + ", place 17 of " + v, file, 1, pixel);
        } else {
            refused(name + ", place 17 of " + v, file, 2, 17);
        }
    }

    /** "Then L bytes (any)": none up to 255. */
    private static void notes() {
        for (int length : new int[] {0, 1, 2, 127, 128, 254, 255}) {
            Bytes head = new Bytes().add(length, 1, 1).low2(0, 1).add(24).low2(0, 0, 1, 1).add(8, 32);
            byte[] noted = head.times(length, 77).file();
            taken("a note of " + length, new Bytes().add(noted).add(1, 2, 3, 0), 1, 0x030201FF);
            refused("a note of " + length + " and a byte more", new Bytes().add(noted).add(77, 1, 2, 3, 0), 6, 21 + length);
            refused("a note of " + length + ", nothing behind", noted, 1, 18 + length);
            if (length > 0) {
                refused("a note of " + length + ", cut", Arrays.copyOf(noted, 17 + length), 1, 17 + length);
            }
        }
    }

    /** "MANY entries of (DEEP + 7) / 8 bytes". */
    private static void manyEntries() {
        for (int deep : new int[] {15, 16, 24, 32}) {
            int length = (deep + 7) / 8;
            for (int many : new int[] {1, 2, 255, 256, 257, 300}) {
                String name = many + " entries of " + deep;
                Bytes whole = mapped(1, 0, many, deep, 1, 32).times(many * length, 255);
                byte[] entries = whole.file();
                taken(name, whole.add(0), 1, -1);
                refused(name + ", no pixel", entries, 1, entries.length);
                refused(name + ", the last cut", Arrays.copyOf(entries, entries.length - 1), 1, entries.length - 1);
            }
        }
        refused("65535 entries", mapped(1, 0, 65535, 32, 1, 32).times(1000, 1), 1, 1018);
    }

    /** "a byte i is entry i - FIRST (none there: 6)". */
    private static void entriesThereAndNot() {
        for (int from : new int[] {0, 1, 2, 100, 253, 254, 255}) {
            for (int many : new int[] {1, 2, 3}) {
                for (int i = 0; i < 256; i++) {
                    boolean there = i >= from && i < from + many;
                    Bytes file = mapped(1, from, many, 24, 1, 32);
                    for (int k = 0; k < many; k++) {
                        file.add(k, 2, 3);
                    }
                    String name = "entry " + i + " of " + many + " from " + from;
                    if (there) {
                        taken(name, file.add(i), 1, 0x030200FF | i - from << 8);
                    } else {
                        refused(name, file.add(i), 6, 18 + 3 * many);
                    }
                }
            }
        }
        for (int from : new int[] {256, 257, 65535}) {
            refused("from " + from, mapped(1, from, 2, 24, 1, 32).add(1, 2, 3, 4, 5, 6).add(255), 6, 24);
            refused("from " + from + ", byte 0", mapped(9, from, 2, 24, 1, 32).add(1, 2, 3, 4, 5, 6).add(0, 0), 6, 25);
        }
        Bytes all = mapped(1, 0, 256, 24, 256, 32);
        int[] due = new int[256];
        for (int k = 0; k < 256; k++) {
            all.add(k, 1, 2);
            due[k] = 0x020100FF | k << 8;
        }
        for (int k = 0; k < 256; k++) {
            all.add(k);
        }
        taken("all 256 entries", all, 256, due);
        Bytes late = mapped(1, 200, 300, 16, 2, 32).times(110, 0).add(31, 0).times(488, 0);
        taken("entries behind each byte", late.add(255, 200), 2, 0x0000FFFF, 255);
    }

    private static void widthsOfEntries() {
        taken("15 bits", mapped(1, 0, 1, 15, 1, 32).add(0x21, 0x84).add(0), 1, 0x080808FF);
        taken("16 bits", mapped(1, 0, 1, 16, 1, 32).add(0x21, 0x04).add(0), 1, 0x080808FF);
        taken("24 bits", mapped(1, 0, 1, 24, 1, 32).add(1, 2, 3).add(0), 1, 0x030201FF);
        taken("32 bits", mapped(1, 0, 1, 32, 1, 32).add(1, 2, 3, 4).add(0), 1, 0x030201FF);
    }

    /** "with ALPHA 1 the highest bit 1 is alpha 255, 0 alpha 0, else alpha is 255", "(with ALPHA 0: 255)". */
    private static void alphas() {
        int[] highs = {0x00, 0x01, 0x7E, 0x7F, 0x80, 0x81, 0xFF};
        for (int high : highs) {
            int five = (510 * (high >> 2 & 31) + 31) / 62;
            int green = (510 * ((high & 3) << 3) + 31) / 62;
            int opaque = five << 24 | green << 16 | 255;
            int alpha = high > 127 ? 255 : 0;
            taken("16 bits, alpha 1: " + high, head(2, 1, 1, 16, 33).add(0, high), 1, opaque - 255 + alpha);
            taken("16 bits, alpha 0: " + high, head(2, 1, 1, 16, 32).add(0, high), 1, opaque);
            taken("deep 16, alpha 1: " + high, mapped(1, 0, 1, 16, 1, 33).add(0, high, 0), 1, opaque - 255 + alpha);
            taken("deep 16, alpha 0: " + high, mapped(1, 0, 1, 16, 1, 32).add(0, high, 0), 1, opaque);
            taken("deep 15: " + high, mapped(1, 0, 1, 15, 1, 32).add(0, high, 0), 1, opaque);
        }
        for (int alpha : new int[] {0, 1, 127, 128, 254, 255}) {
            taken("32 bits, alpha 8: " + alpha, head(2, 1, 1, 32, 40).add(1, 2, 3, alpha), 1, 0x03020100 | alpha);
            taken("32 bits, alpha 0: " + alpha, head(2, 1, 1, 32, 32).add(1, 2, 3, alpha), 1, 0x030201FF);
            taken("deep 32, alpha 8: " + alpha, mapped(1, 0, 1, 32, 1, 40).add(1, 2, 3, alpha, 0), 1, 0x03020100 | alpha);
            taken("deep 32, alpha 0: " + alpha, mapped(1, 0, 1, 32, 1, 32).add(1, 2, 3, alpha, 0), 1, 0x030201FF);
        }
        int[] due = {0, 8, 16, 25, 33, 41, 49, 58, 66, 74, 82, 90, 99, 107, 115, 123, 132, 140, 148, 156, 165, 173, 181,
            189, 197, 206, 214, 222, 230, 239, 247, 255};
        for (int v = 0; v < 32; v++) {
            taken("five bits of " + v, head(2, 3, 1, 16, 32).add(v, 0).low2(v << 5, v << 10), 3, due[v] << 8 | 255,
                due[v] << 16 | 255, due[v] << 24 | 255);
        }
    }

    /** "a byte p; 128 and more: p - 127 pixels like the one that follows; else p + 1 pixels follow". */
    private static void packetSizes() {
        for (int p = 0; p < 256; p++) {
            boolean like = p >= 128;
            int many = like ? p - 127 : p + 1;
            taken("packet " + p, head(11, many, 1, 8, 32).add(p).times(like ? 1 : many, 7), many, repeat(many, gray(7)));
            refused("packet " + p + ", one byte less", head(11, many, 1, 8, 32).add(p).times(like ? 0 : many - 1, 7), 1,
                19 + (like ? 0 : many - 1));
            refused("packet " + p + ", one byte more", head(11, many, 1, 8, 32).add(p).times(like ? 2 : many + 1, 7), 5,
                19 + (like ? 1 : many));
            if (many > 1) {
                refused("packet " + p + ", a column less", head(11, many - 1, 1, 8, 32).add(p).times(many, 7), 4, 18);
                refused("packet " + p + ", a column less, rows more", head(11, many - 1, 9, 8, 32).add(p).times(many, 7), 4,
                    18);
                refused("packet " + p + ", a column less, cut", head(11, many - 1, 1, 8, 32).add(p), 4, 18);
            }
        }
    }

    /** "none goes over its row's end (4)". */
    private static void packetsAndRows() {
        taken("just to each row's end", head(11, 3, 2, 8, 32).add(130, 1).add(2, 2, 3, 4), 3, gray(1), gray(1), gray(1),
            gray(2), gray(3), gray(4));
        refused("over the first row's end", head(11, 3, 2, 8, 32).add(131, 1).add(1, 2, 3), 4, 18);
        refused("over the first row's end, later", head(11, 3, 2, 8, 32).add(128, 1).add(2, 2, 3, 4), 4, 20);
        refused("over the last row's end", head(11, 3, 2, 8, 32).add(130, 1).add(131, 2), 4, 20);
        refused("over the last row's end, later", head(11, 3, 2, 8, 32).add(130, 1).add(129, 2).add(129, 3), 4, 22);
        refused("from the right one, too", head(11, 3, 2, 8, 16).add(128, 1).add(130, 2), 4, 20);
        refused("a row wanted", head(11, 3, 2, 8, 32).add(130, 1), 1, 20);
        taken("packets of colours", head(10, 3, 1, 24, 32).add(0, 1, 2, 3).add(129, 4, 5, 6), 3, 0x030201FF, 0x060504FF,
            0x060504FF);
        taken("no packets", head(3, 3, 1, 8, 32).add(130, 131, 0), 3, gray(130), gray(131), gray(0));
    }

    /** "its bytes (1), whether it goes too far (4), its colour (6)", pixel by pixel. */
    private static void ordersOfFaults() {
        Bytes one = mapped(9, 0, 1, 24, 3, 32).add(1, 2, 3);
        byte[] head = one.file();
        refused("too far ahead of an entry", new Bytes().add(head).add(3, 9, 9, 9, 9), 4, 21);
        refused("too far ahead of the end", new Bytes().add(head).add(131), 4, 21);
        refused("an entry ahead of the end", new Bytes().add(head).add(2, 0, 1), 6, 23);
        refused("the end ahead of an entry", new Bytes().add(head).add(2, 0), 1, 23);
        refused("an entry of like ones", new Bytes().add(head).add(130, 1), 6, 22);
        refused("an entry of a later packet", new Bytes().add(head).add(128, 0, 129, 1), 6, 24);
        refused("an entry of pixels", mapped(1, 0, 1, 24, 3, 32).add(1, 2, 3).add(0, 1), 6, 22);
        refused("the end of pixels", mapped(1, 0, 1, 24, 3, 32).add(1, 2, 3).add(0, 0), 1, 23);
        refused("an entry ahead of a byte behind", mapped(1, 0, 1, 24, 1, 32).add(1, 2, 3).add(1, 0), 6, 21);
    }

    /** "then the end, or 26 bytes: eight 0, the signs .. and a 0 (fault 5 at the first one if they are not just these)". */
    private static void footers() {
        byte[] bare = head(3, 1, 1, 8, 0).add(9).file();
        byte[] file = new Bytes().add(bare).times(8, 0).text("TRUEVISION-XFILE.").add(0).file();
        Check.taken("the end", TGA, bare, 1, gray(9));
        Check.taken("26 bytes", TGA, file, 1, gray(9));
        for (int place = 19; place < 45; place++) {
            Check.eachValue("footer's " + place, TGA, file, place, 5, 19, file[place] & 255);
        }
        for (int n = 20; n < 45; n++) {
            refused("footer cut to " + n, Arrays.copyOf(file, n), 5, 19);
        }
        for (int b = 0; b < 256; b++) {
            refused("a byte behind of " + b, new Bytes().add(bare).add(b), 5, 19);
            refused("a byte of " + b + " behind the footer", new Bytes().add(file).add(b), 5, 19);
        }
        refused("two footers", new Bytes().add(file).add(Arrays.copyOfRange(file, 19, 45)), 5, 19);
        refused("26 other bytes", new Bytes().add(bare).times(26, 0), 5, 19);
        refused("no eight 0", new Bytes().add(bare).text("TRUEVISION-XFILE.").add(0), 5, 19);
        Bytes packed = head(11, 2, 1, 8, 0).add(129, 5).times(8, 0).text("TRUEVISION-XFILE.").add(0);
        taken("behind packets", packed, 2, gray(5), gray(5));
    }

    /** "1 a byte is wanted where the end is (place n)". */
    private static void cuts() {
        Check.refusedIfCut("16 bits", TGA, head(2, 2, 2, 16, 33).times(8, 1).file());
        Check.refusedIfCut("32 bits", TGA, head(2, 2, 1, 32, 40).times(8, 1).file());
        Check.refusedIfCut("packets", TGA, head(10, 2, 2, 24, 0).add(129, 1, 2, 3, 1, 1, 2, 3, 4, 5, 6).file());
        byte[] noted = mapped(9, 0, 2, 15, 2, 0).text("abc").add(1, 2, 3, 4, 1, 0, 1).file();
        Check.refusedIfCut("a note and entries", TGA, Bytes.with(noted, 0, 3));
    }

    /** "TGA TYPE, BITS, packets (0 without)". */
    private static void facts() {
        Check.told("one packet", TGA, head(11, 128, 1, 8, 0).add(255, 1).file(), 11, 8, 1);
        Check.told("a packet a row", TGA, head(11, 1, 3, 8, 0).add(0, 1, 128, 2, 0, 3).file(), 11, 8, 3);
        Check.told("two packets a row", TGA, head(10, 2, 2, 32, 0).add(0, 1, 2, 3, 4).add(0, 1, 2, 3, 4)
            .add(128, 1, 2, 3, 4).add(128, 1, 2, 3, 4).file(), 10, 32, 4);
        Check.told("without", TGA, head(2, 2, 1, 16, 0).add(1, 2, 3, 4).file(), 2, 16, 0);
        Check.told("BITS, not DEEP", TGA, mapped(9, 0, 1, 15, 1, 0).add(1, 2, 0, 0).file(), 9, 8, 1);
        RasterMint x = new RasterMint();
        for (int k = 0; k < 2; k++) {
            Check.tape(x, head(11, 2, 1, 8, 0).add(129, 1).file());
            x.read(TGA, 0);
            Check.due("packets are counted anew", x.told(3), 1);
        }
        Check.tape(x, head(3, 2, 1, 8, 0).add(129, 1).file());
        x.read(TGA, 0);
        Check.due("none behind some", x.told(3), 0);
    }
}
