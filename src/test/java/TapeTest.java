import java.util.NoSuchElementException;

/** Promises 1 to 7 and 9, 10: the TAPE, the OUTPUT, what a read() leaves. */
public final class TapeTest {
    public static void main(String[] args) {
        newObject();
        feeding();
        fullTape();
        ending();
        again();
        reading();
        shelvesOfRead();
        places();
        outputBytes();
        Check.finish("TapeTest");
    }

    private static void newObject() {
        RasterMint x = new RasterMint();
        for (int shelf = -1; shelf < 5; shelf++) {
            for (int what = -1; what < 7; what++) {
                Check.due("raster(" + shelf + ", " + what + ") of a new one", x.raster(shelf, what), -1);
            }
            for (int form = -1; form < 19; form++) {
                Check.due("write of a new one", x.write(shelf, form), -2);
                Check.due("holds of a new one", x.holds(shelf, form), false);
            }
        }
        Check.due("end(0) of a new one", x.end(0), true);
        Check.due("end(1) of a new one", x.end(1), false);
        Check.due("again() of a new one", x.again(), -1);
        Check.due("byteAt(0) of a new one", x.byteAt(0), -1);
        Check.dueThrow("bytes(0) of a new one", NoSuchElementException.class, () -> x.bytes(0));
        Check.due("place() of a new one", x.place(), -1);
        for (int what = -1; what < 5; what++) {
            Check.due("told(" + what + ") of a new one", x.told(what), -1);
        }
        Check.due("read of an empty tape", x.read(0, 0), 1);
        Check.due("place of an empty tape", x.place(), 0);
        RasterMint other = new RasterMint();
        x.make(0, 1, 1, 5);
        x.write(0, 0);
        Check.due("another object has its own shelves", other.raster(0, 0), -1);
        Check.due("another object has its own output", other.again(), -1);
    }

    private static void feeding() {
        RasterMint x = new RasterMint();
        Check.due("feed", x.feed(0x50352034, 0x20352032, 0x35350A80, 0x01020304, 0x05060708), 20);
        Check.due("feed", x.feed(0x090A0B0C, 0x0D0E0F10, 0x11121314, 0xFFFEFDFC, -1), 40);
        Check.due("end", x.end(31), true);
        Check.due("read", x.read(1, 0), 0);
        for (int i = 0; i < 20; i++) {
            int v = i == 0 ? 128 : i;
            Check.due("byte " + i, x.pixel(0, i % 4, i / 4), v * 0x01010100 + 255);
        }
        Check.due("the tape is empty", x.feed(0, 0, 0, 0, 0), 20);
    }

    /** More calls than an object is promised for: the TAPE's bound can't be come to with fewer. */
    private static void fullTape() {
        RasterMint x = new RasterMint();
        for (int n = 20; n <= 65520; n += 20) {
            Check.due("feed", x.feed(1, 2, 3, 4, 5), n);
        }
        Check.due("feed above 65536", x.feed(1, 2, 3, 4, 5), -1);
        Check.due("nothing came", x.end(65521), false);
        Check.due("end(65516)", x.end(65516), true);
        Check.due("feed up to 65536", x.feed(1, 2, 3, 4, 5), 65536);
        Check.due("feed above 65536", x.feed(1, 2, 3, 4, 5), -1);
        Check.due("end(65517)", x.end(65517), true);
        Check.due("feed above 65536 by one", x.feed(1, 2, 3, 4, 5), -1);
        Check.due("end(65517) again", x.end(65517), true);
        Check.due("end(65518)", x.end(65518), false);
    }

    private static void ending() {
        RasterMint x = new RasterMint();
        x.feed(0x50312031, 0x20312031, 0x31313131, 0, 0);
        Check.due("end(-1)", x.end(-1), false);
        Check.due("end(21)", x.end(21), false);
        Check.due("end(MIN)", x.end(Integer.MIN_VALUE), false);
        Check.due("end(MAX)", x.end(Integer.MAX_VALUE), false);
        Check.due("end(20)", x.end(20), true);
        Check.due("end(8)", x.end(8), true);
        Check.due("end(9)", x.end(9), false);
        Check.due("read", x.read(1, 0), 0);
        x.feed(0x50312031, 0x20312031, 0x31313131, 0, 0);
        x.end(7);
        Check.due("feed behind the seventh", x.feed(0x30202020, 0x20202020, 0x20202020, 0x20202020, 0x20202020), 27);
        Check.due("read", x.read(1, 0), 0);
        Check.due("the byte behind", x.pixel(0, 0, 0), -1);
    }

    private static void again() {
        RasterMint x = new RasterMint();
        x.make(0, 2, 1, 0x01020304);
        Check.due("write", x.write(0, 10), 26);
        x.feed(1, 2, 3, 4, 5);
        x.feed(1, 2, 3, 4, 5);
        Check.due("again in place of the tape", x.again(), 26);
        Check.due("end(27)", x.end(27), false);
        Check.due("it stays the output", x.byteAt(25), 4);
        Check.due("read", x.read(3, 1), 0);
        Check.due("same", x.same(0, 1), true);
        Check.due("it stays the output", x.byteAt(25), 4);
        Check.due("again", x.again(), 26);
        x.end(0);
        x.feed(-1, -1, -1, -1, -1);
        Check.due("feeding changes the tape alone", x.byteAt(0), 0);
        Check.due("cutting changes the tape alone", x.byteAt(26), -1);
        Check.due("again", x.again(), 26);
        Check.due("feed behind", x.feed(0, 0, 0, 0, 0), 46);
        RasterMint y = new RasterMint();
        y.feed(1, 2, 3, 4, 5);
        Check.due("again without an output", y.again(), -1);
        Check.due("the tape stays", y.end(20), true);
    }

    private static void reading() {
        RasterMint x = new RasterMint();
        byte[] file = Bytes.of("P1 2 1 10");
        for (int family : new int[] {-1, 5, 6, Integer.MIN_VALUE, Integer.MAX_VALUE}) {
            Check.tape(x, file);
            Check.dueThrow("read(" + family + ", 0)", NoSuchElementException.class, () -> x.read(family, 0));
            Check.due("the tape stays", x.end(9), true);
        }
        for (int shelf : new int[] {-1, 4, Integer.MIN_VALUE, Integer.MAX_VALUE}) {
            Check.dueThrow("read(1, " + shelf + ")", IllegalArgumentException.class, () -> x.read(1, shelf));
            Check.dueThrow("read(9, " + shelf + ")", IllegalArgumentException.class, () -> x.read(9, shelf));
            Check.due("the tape stays", x.end(9), true);
        }
        Check.due("place stays", x.place(), -1);
        Check.due("told stays", x.told(0), -1);
        Check.due("read", x.read(1, 3), 0);
        Check.due("read again", x.read(1, 3), 1);
        Check.due("the shelf stays", x.pixel(3, 1, 0), -1);
    }

    private static void shelvesOfRead() {
        RasterMint x = new RasterMint();
        for (int shelf = 0; shelf < 4; shelf++) {
            Check.tape(x, Bytes.of("P2 1 1 255 " + (10 + shelf)));
            Check.due("read", x.read(1, shelf), 0);
        }
        for (int shelf = 0; shelf < 4; shelf++) {
            Check.due("each shelf has its own", x.pixel(shelf, 0, 0), (10 + shelf) * 0x01010100 + 255);
        }
        Check.tape(x, Bytes.of("P2 2 1 255 1 2"));
        x.read(1, 2);
        x.dot(2, 0, 0, 77);
        Check.due("a shelf changes alone", x.pixel(1, 0, 0), 11 * 0x01010100 + 255);
        Check.tape(x, Bytes.of("P2 2 1 255 1"));
        x.read(1, 2);
        Check.due("a fault leaves the shelf", x.pixel(2, 0, 0), 77);
        Check.due("a fault leaves the shelf", x.pixel(2, 1, 0), 0x020202FF);
    }

    private static void places() {
        RasterMint x = new RasterMint();
        Check.tape(x, Bytes.of("P1 1 1 x"));
        x.read(1, 0);
        Check.due("place of a fault", x.place(), 7);
        Check.due("told stays NONE", x.told(1), -1);
        Check.dueThrow("read of no family", NoSuchElementException.class, () -> x.read(8, 0));
        Check.due("place stays where read throws", x.place(), 7);
        Check.tape(x, Bytes.of("P5 1 1 9 \3"));
        Check.due("read", x.read(1, 0), 0);
        Check.due("place is none", x.place(), -1);
        Check.due("told(1)", x.told(1), 5);
        Check.tape(x, Bytes.of("qoiX"));
        Check.due("read", x.read(0, 1), 2);
        Check.due("place", x.place(), 3);
        Check.due("told(0) stays", x.told(0), 1);
        Check.due("told(1) stays", x.told(1), 5);
        Check.due("told(2) stays", x.told(2), 9);
        Check.due("told(3) stays", x.told(3), 9);
        Check.due("told(4)", x.told(4), -1);
        Check.due("told(MIN)", x.told(Integer.MIN_VALUE), -1);
        Check.due("told(MAX)", x.told(Integer.MAX_VALUE), -1);
        x.chain(0, 10, 1);
        Check.due("place stays with a chain", x.place(), 3);
        Check.due("told by a chain", x.told(0), 3);
    }

    private static void outputBytes() {
        RasterMint x = new RasterMint();
        x.make(0, 1, 1, 0xF1E2D3C4);
        Check.due("write", x.write(0, 10), 22);
        int[] due = {0, 0, 2, 0, 0, 0, 0, 0, 0, 0, 0, 0, 1, 0, 1, 0, 32, 40, 0xD3, 0xE2, 0xF1, 0xC4};
        for (int i = 0; i < due.length; i++) {
            Check.due("byteAt(" + i + ")", x.byteAt(i), due[i]);
            long eight = 0;
            for (int k = 0; k < 8; k++) {
                eight = eight << 8 | (i + k < due.length ? due[i + k] : 0);
            }
            Check.due("bytes(" + i + ")", x.bytes(i), eight);
        }
        for (int i : new int[] {-1, 22, 23, 65535, 65536, Integer.MIN_VALUE, Integer.MAX_VALUE}) {
            Check.due("byteAt(" + i + ")", x.byteAt(i), -1);
            Check.dueThrow("bytes(" + i + ")", NoSuchElementException.class, () -> x.bytes(i));
        }
        x.make(1, 40, 40, 0xF1E2D3C4);
        x.write(1, 10);
        Check.due("write a smaller one", x.write(0, 10), 22);
        Check.due("bytes behind the end are 0", x.bytes(21), 0xC400000000000000L);
        Check.due("byteAt behind the end", x.byteAt(22), -1);
    }
}
