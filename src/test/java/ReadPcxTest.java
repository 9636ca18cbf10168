/** Promises 5, 6, 7: files of family 4. */
public final class ReadPcxTest {
    private static final int PCX = 4;
    private static final int BLACK = 0x000000FF;
    private static final int WHITE = 0xFFFFFFFF;

    public static void main(String[] args) {
        planes();
        table();
        lines();
        badLines();
        headers();
        sizes();
        facts();
        Check.finish("ReadPcxTest");
    }

    private static Bytes head(int version, int bits, int planes, int step, int width, int height) {
        return MadeFiles.pcx(version, bits, planes, step, width, height);
    }

    private static int sixteenth(int i) {
        return MadeFiles.pcxColour(i);
    }

    private static Bytes tabled(Bytes out) {
        return MadeFiles.pcxTabled(out);
    }

    private static int entry(int i) {
        return MadeFiles.pcxEntry(i);
    }

    private static void taken(String name, Bytes file, int width, int... pixels) {
        Check.taken(name, PCX, file.file(), width, pixels);
    }

    private static void refused(String name, Bytes file, int fault, int place) {
        Check.refused(name, PCX, file.file(), fault, place);
    }

    private static void planes() {
        taken("1 bit", head(0, 1, 1, 2, 9, 1).add(0xA5, 0x80), 9, WHITE, BLACK, WHITE, BLACK, BLACK, WHITE, BLACK, WHITE,
            WHITE);
        taken("1 bit, 2 planes", head(3, 1, 2, 2, 4, 1).add(0x50, 0, 0x30, 0), 4, sixteenth(0), sixteenth(1),
            sixteenth(2), sixteenth(3));
        taken("1 bit, 3 planes", head(4, 1, 3, 2, 2, 1).add(0x40, 0, 0x80, 0, 0x40, 0), 2, sixteenth(2), sixteenth(5));
        taken("1 bit, 4 planes", head(5, 1, 4, 2, 2, 1).add(0x80, 0, 0, 0, 0x40, 0, 193, 0xC0, 0), 2, sixteenth(9),
            sixteenth(12));
        taken("2 bits", head(2, 2, 1, 2, 5, 1).add(0x1B, 0x80), 5, sixteenth(0), sixteenth(1), sixteenth(2), sixteenth(3),
            sixteenth(2));
        taken("4 bits", head(2, 4, 1, 2, 3, 1).add(0x1F, 0x80), 3, sixteenth(1), sixteenth(15), sixteenth(8));
        taken("8 bits, 3 planes", head(5, 8, 3, 2, 2, 1).add(1, 2, 3, 4, 5, 6), 2, 0x010305FF, 0x020406FF);
        taken("a longer step", head(5, 8, 3, 4, 1, 1).add(1, 9, 9, 9, 2, 9, 9, 9, 3, 9, 9, 9), 1, 0x010203FF);
        taken("two lines", head(0, 1, 1, 2, 1, 2).add(0x80, 1, 0x7F, 1), 1, WHITE, BLACK);
    }

    private static void table() {
        Bytes file = tabled(head(5, 8, 1, 2, 2, 2).add(0, 7, 193, 255, 100));
        taken("256 colours", file, 2, entry(0), entry(7), entry(255), entry(100));
        Bytes bare = head(5, 8, 1, 2, 1, 1).add(0, 0);
        refused("no table", bare, 1, 130);
        refused("another mark", new Bytes().add(bare.file()).add(13).times(768, 0), 2, 130);
        refused("another mark, cut", new Bytes().add(bare.file()).add(11), 2, 130);
        refused("a table cut", new Bytes().add(bare.file()).add(12).times(767, 0), 1, 898);
        refused("a byte behind the table", tabled(head(5, 8, 1, 2, 1, 1).add(0, 0)).add(12), 5, 899);
        refused("a table where none is", tabled(head(5, 8, 3, 2, 1, 1).add(198, 0)), 5, 130);
        refused("a byte behind", head(0, 1, 1, 2, 1, 1).add(0, 0, 0), 5, 130);
    }

    private static void lines() {
        taken("a run over a line's planes", head(5, 8, 3, 2, 2, 1).add(198, 7), 2, 0x070707FF, 0x070707FF);
        taken("a run of 63", head(5, 8, 3, 22, 1, 1).add(255, 200, 195, 200), 1, 0xC8C8C8FF);
        taken("a byte of 191", head(5, 8, 3, 2, 1, 1).add(191, 0, 191, 0, 191, 0), 1, 0xBFBFBFFF);
        taken("a run of one", head(5, 8, 3, 2, 1, 1).add(193, 192, 0, 193, 193, 0, 193, 255, 0), 1, 0xC0C1FFFF);
    }

    private static void badLines() {
        refused("a run over the line's end", head(0, 1, 1, 2, 1, 2).add(195, 0, 193, 0), 4, 128);
        refused("a run over the line's end, cut", head(0, 1, 1, 2, 1, 2).add(195), 4, 128);
        refused("a run over the second line's end", head(0, 1, 1, 2, 1, 2).add(194, 0, 0, 194, 0), 4, 131);
        refused("a run over all planes", head(5, 8, 3, 2, 1, 1).add(199, 0), 4, 128);
        refused("a run of no byte", head(0, 1, 1, 2, 1, 1).add(192, 0, 0, 0), 4, 128);
        refused("a run of no byte, cut", head(0, 1, 1, 2, 1, 1).add(1, 192), 4, 129);
        refused("a run cut", head(0, 1, 1, 2, 1, 1).add(194), 1, 129);
        refused("no line", head(0, 1, 1, 2, 1, 1), 1, 128);
        Check.refusedIfCut("8 bits", PCX, head(5, 8, 3, 2, 2, 1).add(1, 2, 193, 4, 5, 6, 7).file());
    }

    private static void bad(String name, byte[] file, int place, int... values) {
        Check.refused(name, PCX, Bytes.with(file, place, values), 2, place);
    }

    private static void headers() {
        byte[] file = head(0, 1, 1, 2, 1, 1).add(0, 0).file();
        bad("sign", file, 0, 11);
        for (int version : new int[] {1, 6, 255}) {
            bad("version " + version, file, 1, version);
        }
        bad("encoding 0", file, 2, 0);
        bad("encoding 2", file, 2, 2);
        for (int bits : new int[] {0, 3, 5, 6, 7, 9, 16, 255}) {
            bad("bits " + bits, file, 3, bits);
        }
        bad("right of 4", file, 8, 4, 0);
        bad("bottom of 6", file, 10, 6, 0);
        bad("right of 0, left of 256", Bytes.with(file, 4, 0, 1), 8, 0, 0);
        for (int version = 0; version < 6; version++) {
            for (int bits = 1; bits <= 8 && version != 1; bits *= 2) {
                for (int planes : new int[] {0, 1, 2, 3, 4, 5, 255}) {
                    asked(version, bits, planes);
                }
            }
        }
        bad("step odd", file, 66, 3, 0);
        bad("step 0", file, 66, 0, 0);
        bad("step 1", file, 66, 1, 0);
        bad("step 2 of 17 pixels", Bytes.with(file, 8, 21), 66, 2, 0);
        Check.refused("step 2 of 16 pixels, read on", PCX, Bytes.with(Bytes.with(file, 8, 20), 128, 196), 4, 128);
        bad("step 2 of 9 pixels of 2 bits", Bytes.with(Bytes.with(file, 8, 13), 3, 2), 66, 2, 0);
        bad("step 2 of 5 pixels of 4 bits", Bytes.with(Bytes.with(file, 8, 9), 3, 4), 66, 2, 0);
        bad("step 2 of 3 pixels of 8 bits", Bytes.with(head(5, 8, 3, 2, 1, 1).file(), 8, 7), 66, 2, 0);
        refused("step 65534", head(0, 1, 1, 65534, 1, 1).add(255, 0), 1, 130);
        refused("an empty tape", new Bytes(), 1, 0);
    }

    private static void asked(int version, int bits, int planes) {
        boolean can = planes == 1;
        if (bits == 1) {
            can = planes >= 1 && planes <= 4;
        } else if (bits == 8) {
            can = version == 5 && (planes == 1 || planes == 3);
        }
        String name = "version " + version + ", bits " + bits + ", planes " + planes;
        refused(name, head(version, bits, planes, 2, 1, 1), can ? 1 : 2, can ? 128 : 65);
    }

    private static void sizes() {
        refused("4097 x 1", head(5, 8, 3, 4098, 4097, 1), 3, 10);
        refused("64 x 65", head(0, 1, 9, 9, 64, 65), 3, 10);
        Bytes widest = new Bytes().add(10, 5, 1, 1).low2(0, 0, 65535, 65535);
        refused("65536 x 65536", widest, 3, 10);
        refused("a width above 4096, bottom above top", new Bytes().add(10, 5, 1, 1).low2(0, 9, 65535, 8), 2, 10);
        refused("a width above 4096, cut", new Bytes().add(10, 5, 1, 1).low2(0, 0, 65535).add(0), 1, 11);
        Bytes most = head(0, 1, 1, 8, 64, 64);
        for (int y = 0; y < 64; y++) {
            most.add(200, 255);
        }
        RasterMint x = new RasterMint();
        Check.tape(x, most.file());
        Check.due("64 x 64", x.read(PCX, 0), 0);
        Check.due("64 x 64: the last one", x.pixel(0, 63, 63), WHITE);
        Check.due("64 x 64: colours", x.raster(0, 2), 1);
    }

    private static void facts() {
        Check.told("1 bit", PCX, head(0, 1, 2, 4, 2, 1).add(200, 0).file(), 1, 2, 4);
        Check.told("4 bits", PCX, head(0, 4, 1, 2, 2, 1).add(194, 0).file(), 4, 1, 2);
        Check.told("8 bits", PCX, head(5, 8, 3, 2, 2, 1).add(198, 0).file(), 8, 3, 2);
        Check.told("a table", PCX, tabled(head(5, 8, 1, 6, 2, 1).add(198, 0)).file(), 8, 1, 6);
    }
}
