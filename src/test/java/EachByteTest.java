import java.util.Arrays;

/**
 * Small files of each family and kind: each byte in each of its values, each byte left out, each place with a byte put
 * in, each beginning. Fault, place, told() and pixels are held against the model.
 */
public final class EachByteTest {
    private static final int[] PUT_IN = {0, 1, 2, 10, 32, 35, 48, 49, 128, 192, 193, 255};

    private final int family;
    private final byte[] file;

    private EachByteTest(int family, byte[] file) {
        this.family = family;
        this.file = file;
    }

    public static void main(String[] args) {
        qoi();
        pnm();
        bmp();
        tga();
        pcx();
        Check.finish("EachByteTest");
    }

    private static void qoi() {
        spoil(0, new Bytes().text("qoif").high4(5, 2).add(3, 0).add(192, 5, 127, 160, 0x79, 254, 1, 2, 3, 255, 4, 5, 6, 7, 53,
            194).times(7, 0).add(1));
        spoil(0, new Bytes().text("qoif").high4(1, 3).add(4, 1).add(0, 1, 0).times(7, 0).add(1));
    }

    private static void pnm() {
        spoil(1, new Bytes().text("P1#n\n3 2\n10 1\t0#1\n11\n"));
        spoil(1, new Bytes().text("P2 2 2 12\n1 12 0#\n7 #end"));
        spoil(1, new Bytes().text("P3 1 1 65535 65535 128 0\n"));
        spoil(1, new Bytes().text("P4 9 2\nabcd"));
        spoil(1, new Bytes().text("P5 2 2 200\n").add(0, 1, 199, 200));
        spoil(1, new Bytes().text("P6 1 1 300 ").add(0, 1, 1, 44, 0, 0));
    }

    private static Bytes bmpOf(int width, int height, int bits, int compression, int used, int... data) {
        int offset = 54 + 4 * used;
        Bytes out = new Bytes().text("BM").low4(offset + data.length, 0, offset, 40, width, height).low2(1, bits)
            .low4(compression, data.length, 0, 0, used, 0);
        for (int i = 0; i < used; i++) {
            out.add(10 + i, 20 + i, 30 + i, 0);
        }
        return out.add(data);
    }

    private static void bmp() {
        spoil(2, bmpOf(9, 1, 1, 0, 2, 0xA5, 0x80, 0, 0));
        spoil(2, bmpOf(3, -1, 4, 0, 3, 0x01, 0x20, 0, 0));
        spoil(2, bmpOf(3, 2, 8, 0, 2, 0, 1, 0, 9, 1, 0, 1, 9));
        spoil(2, bmpOf(1, 1, 16, 0, 0, 1, 2, 3, 4));
        spoil(2, bmpOf(1, -1, 24, 0, 0, 1, 2, 3, 4));
        spoil(2, bmpOf(1, 1, 32, 0, 0, 1, 2, 3, 4));
        spoil(2, bmpOf(5, 3, 8, 1, 3, 3, 1, 0, 0, 0, 3, 0, 1, 2, 9, 0, 2, 1, 1, 1, 2, 0, 1));
        spoil(2, bmpOf(6, 3, 4, 2, 3, 3, 0x12, 0, 0, 0, 5, 0x01, 0x20, 0x10, 9, 0, 2, 0, 1, 2, 0x20, 0, 1));
    }

    private static Bytes tgaOf(int note, int type, int from, int many, int deep) {
        return new Bytes().add(note, deep > 0 ? 1 : 0, type).low2(from, many).add(deep).low2(0, 0);
    }

    private static void tga() {
        spoil(3, tgaOf(2, 1, 3, 2, 24).low2(3, 1).add(8, 0).add(7, 7).add(1, 2, 3, 4, 5, 6).add(3, 4, 3));
        spoil(3, tgaOf(0, 2, 0, 0, 0).low2(2, 1).add(32, 40).add(1, 2, 3, 4, 5, 6, 7, 8));
        spoil(3, tgaOf(0, 3, 0, 0, 0).low2(2, 2).add(8, 16).add(1, 2, 3, 4).times(8, 0).text("TRUEVISION-XFILE.").add(0));
        spoil(3, tgaOf(1, 9, 1, 2, 16).low2(3, 2).add(8, 33).add(7).add(1, 2, 3, 132).add(129, 1, 0, 2, 2, 1, 2, 1));
        spoil(3, tgaOf(0, 10, 0, 0, 0).low2(3, 1).add(16, 1).add(129, 1, 2, 0, 3, 132));
        spoil(3, tgaOf(0, 11, 0, 1, 15).low2(4, 1).add(8, 48).add(5, 5).add(1, 1, 2, 129, 3));
    }

    private static Bytes pcxOf(int version, int bits, int planes, int step, int width, int height) {
        Bytes out = new Bytes().add(10, version, 1, bits).low2(1, 2, width, height + 1, 0, 0);
        for (int i = 0; i < 48; i++) {
            out.add(i);
        }
        return out.add(0, planes).low2(step).times(60, 0);
    }

    private static void pcx() {
        spoil(4, pcxOf(0, 1, 1, 2, 9, 2).add(1, 193, 200, 194, 7));
        spoil(4, pcxOf(3, 1, 4, 2, 3, 1).add(196, 160, 1, 2, 194, 255));
        spoil(4, pcxOf(2, 2, 1, 2, 5, 1).add(27, 128));
        spoil(4, pcxOf(4, 4, 1, 2, 3, 1).add(18, 48));
        spoil(4, pcxOf(5, 8, 3, 2, 2, 1).add(1, 2, 195, 255, 6));
        byte[] tabled = pcxOf(5, 8, 1, 2, 2, 1).add(1, 193, 255).add(12).times(768, 9).file();
        new EachByteTest(4, tabled).each(0, 140);
        new EachByteTest(4, tabled).each(tabled.length - 4, tabled.length);
    }

    private static void spoil(int family, Bytes file) {
        byte[] whole = file.file();
        new EachByteTest(family, whole).each(0, whole.length);
    }

    private void each(int from, int to) {
        ask("whole", file);
        for (int place = from; place < to; place++) {
            for (int v = 0; v < 256; v++) {
                ask("place " + place + " of " + v, Bytes.with(file, place, v));
            }
            byte[] head = Arrays.copyOf(file, place);
            byte[] tail = Arrays.copyOfRange(file, place, file.length);
            ask("cut to " + place, head);
            ask("cut to " + place, lengthPut(head));
            ask("without " + place, lengthPut(new Bytes().add(head).add(Arrays.copyOfRange(tail, 1, tail.length)).file()));
            for (int b : PUT_IN) {
                ask(b + " put in at " + place, lengthPut(new Bytes().add(head).add(b).add(tail).file()));
            }
        }
        for (int b : PUT_IN) {
            ask(b + " behind", lengthPut(new Bytes().add(file).add(b).file()));
        }
    }

    /** In a BMP the length is told, so that a file of another one is refused at once if it is not put right. */
    private byte[] lengthPut(byte[] changed) {
        if (family != 2 || changed.length < 38) {
            return changed;
        }
        int size = changed.length - (changed[10] & 255);
        byte[] told = Bytes.with(changed, 2, changed.length, changed.length >> 8, 0, 0);
        return size < 0 ? told : Bytes.with(told, 34, size, size >> 8, 0, 0);
    }

    private void ask(String change, byte[] changed) {
        ModelReader due = ModelReader.read(family, changed);
        RasterMint x = new RasterMint();
        Check.tape(x, changed);
        String name = "family " + family + ", file of " + file.length + " bytes, " + change;
        Check.due(name, x.read(family, 0), due.fault);
        Check.due(name + ": place", x.place(), due.place);
        if (due.fault != 0) {
            Check.due(name + ": the shelf stays", x.raster(0, 0), -1);
            return;
        }
        for (int what = 0; what < 4; what++) {
            Check.due(name + ": told(" + what + ")", x.told(what), due.told[what]);
        }
        Check.due(name + ": width", x.raster(0, 0), due.rows[0].length);
        Check.due(name + ": height", x.raster(0, 1), due.rows.length);
        for (int y = 0; y < due.rows.length && x.raster(0, 1) == due.rows.length; y++) {
            for (int c = 0; c < due.rows[0].length && x.raster(0, 0) == due.rows[0].length; c++) {
                if (x.pixel(0, c, y) != due.rows[y][c]) {
                    Check.due(name + ": pixel " + c + ", " + y, x.pixel(0, c, y), due.rows[y][c]);
                }
            }
        }
    }
}
