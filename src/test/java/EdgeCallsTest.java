import java.util.NoSuchElementException;
import java.util.function.ToLongFunction;

/** Each sentence of promises 1 to 19 that names a bound: the last that is taken, the first that is not. */
public final class EdgeCallsTest {
    private static final int MIN = Integer.MIN_VALUE;
    private static final int MAX = Integer.MAX_VALUE;
    private static final int[] NO_SHELF = {-1, 4, MIN, MAX};
    private static final Class<IllegalArgumentException> NO_RASTER = IllegalArgumentException.class;
    private static final Class<IndexOutOfBoundsException> NO_PIXEL = IndexOutOfBoundsException.class;
    private static final Class<NoSuchElementException> NO_ELEMENT = NoSuchElementException.class;

    public static void main(String[] args) {
        houseStands();
        newObject();
        feedUpToTheBound();
        feedAboveTheBound();
        lastPlaceOfTheTape();
        endOutside();
        endInside();
        againWithoutOutput();
        againLongerAndShorter();
        readThrows();
        readFaults();
        readTakes();
        placeOfReads();
        toldWhats();
        toldOfReads();
        writeRefused();
        writeTakes();
        byteAtEnds();
        bytesAtEnds();
        Check.finish("EdgeCallsTest");
    }

    private static void refused(String call, long want, ToLongFunction<RasterMint> made) {
        House.still(call, x -> Check.due(call, made.applyAsLong(x), want));
    }

    private static void refused(String call, Class<? extends RuntimeException> want, ToLongFunction<RasterMint> made) {
        House.still(call, x -> Check.dueThrow(call, want, () -> made.applyAsLong(x)));
    }

    private static void houseStands() {
        House.still("no call", x -> Check.due("its place", x.place(), House.PLACE));
    }

    /** "Empty shelves, an empty TAPE, no OUTPUT." */
    private static void newObject() {
        for (int shelf = 0; shelf < 4; shelf++) {
            RasterMint x = new RasterMint();
            int at = shelf;
            for (int what = 0; what < 6; what++) {
                Check.due("raster of a new shelf", x.raster(shelf, what), -1);
            }
            Check.dueThrow("pixel of a new shelf", NO_RASTER, () -> x.pixel(at, 0, 0));
            Check.due("chain of a new shelf", x.chain(shelf, 0, 0), -1);
            Check.due("write of a new shelf", x.write(shelf, 0), -2);
            Check.due("holds of a new shelf", x.holds(shelf, 0), false);
            Check.due("a new shelf is like each other", x.same(shelf, 3 - shelf), true);
        }
        RasterMint x = new RasterMint();
        Check.due("the tape has no byte", x.end(1), false);
        Check.due("the first twenty", x.feed(1, 2, 3, 4, 5), 20);
        Check.due("no output", x.byteAt(0), -1);
        Check.dueThrow("no output", NO_ELEMENT, () -> x.bytes(0));
        Check.due("no output", x.again(), -1);
        for (int family = 0; family < 5; family++) {
            RasterMint y = new RasterMint();
            Check.due("read of an empty tape", y.read(family, family % 4), 1);
            Check.due("its place", y.place(), 0);
            Check.due("the shelf stays empty", y.raster(family % 4, 0), -1);
        }
    }

    /** More calls than an object is promised for: with fewer the TAPE can't have 65536 bytes. */
    private static RasterMint fed(byte[] file, int many) {
        RasterMint x = new RasterMint();
        for (int i = 0; i < many; i += 20) {
            Check.due("feed", feed(x, file, i), i + 20);
        }
        return x;
    }

    private static int feed(RasterMint x, byte[] file, int at) {
        int[] five = new int[5];
        for (int k = 0; k < 20; k++) {
            five[k / 4] = five[k / 4] << 8 | (at + k < file.length ? file[at + k] & 255 : 0);
        }
        return x.feed(five[0], five[1], five[2], five[3], five[4]);
    }

    /** A file of 65536 bytes whose one sample is its last byte. */
    private static byte[] longest() {
        return new Bytes().text("P2 1 1 9 #").times(65536 - 12, 'x').add(10, '4').file();
    }

    /** "The TAPE has at most 65536 bytes": it may have 65536. */
    private static void feedUpToTheBound() {
        byte[] file = longest();
        RasterMint x = fed(file, 65520);
        Check.due("end(65516)", x.end(65516), true);
        Check.due("feed behind 65516", feed(x, file, 65516), 65536);
        Check.due("end(65537)", x.end(65537), false);
        Check.due("end(65536)", x.end(65536), true);
        Check.due("read of 65536 bytes", x.read(1, 0), 0);
        Check.due("the last byte", x.pixel(0, 0, 0), 113 * 0x01010100 + 255);
        Check.due("the tape is empty then", x.end(1), false);
        Check.due("feed again", feed(x, file, 0), 20);
    }

    /** "NONE, and nothing comes, if it would have more than 65536." */
    private static void feedAboveTheBound() {
        byte[] file = longest();
        for (int n = 65517; n <= 65536; n++) {
            RasterMint x = fed(file, 65500);
            Check.due("end(65496)", x.end(65496), true);
            Check.due("feed behind 65496", feed(x, file, 65496), 65516);
            Check.due("feed behind 65516", feed(x, file, 65516), 65536);
            Check.due("end(" + n + ")", x.end(n), true);
            Check.due("feed behind " + n, x.feed(-1, -1, -1, -1, -1), -1);
            Check.due("nothing comes behind " + n, x.end(n + 1), false);
            Check.due("nothing goes of " + n, x.end(n), true);
            Check.due("read of " + n, x.read(1, 0), n == 65536 ? 0 : 1);
            Check.due("place of " + n, x.place(), n == 65536 ? -1 : n);
        }
    }

    private static void lastPlaceOfTheTape() {
        byte[] file = longest();
        file[65535] = 'x';
        RasterMint x = fed(file, 65520);
        x.end(65516);
        feed(x, file, 65516);
        Check.due("read", x.read(1, 0), 2);
        Check.due("a fault at the last place", x.place(), 65535);
    }

    /** "false if n is not 0 .. how many it has." */
    private static void endOutside() {
        for (int n : new int[] {-1, MIN, House.TAPE_BYTES + 1, 20, 65536, 65537, MAX}) {
            refused("end(" + n + ")", 0, x -> x.end(n) ? 1 : 0);
        }
        refused("end(17) of seventeen", 1, x -> x.end(17) ? 1 : 0);
        RasterMint x = new RasterMint();
        Check.due("end(0) of none", x.end(0), true);
        Check.due("end(1) of none", x.end(1), false);
        Check.due("end(-1) of none", x.end(-1), false);
    }

    /** "The TAPE has only its first n bytes". */
    private static void endInside() {
        byte[] file = Bytes.of("P2 1 1 99 1234567890");
        for (int n = 0; n <= 20; n++) {
            RasterMint x = new RasterMint();
            feed(x, file, 0);
            Check.due("end(" + n + ")", x.end(n), true);
            Check.due("one more is not there", x.end(n + 1), false);
            Check.due("it may be cut there again", x.end(n), true);
            Check.due("feed goes behind", x.feed(0x20202020, 0x20202020, 0x20202020, 0x20202020, 0x20202020), n + 20);
            Check.due("cut again", x.end(n), true);
            int want = n < 11 ? 1 : n > 12 ? 6 : 0;
            Check.due("read of its first " + n, x.read(1, 0), want);
            Check.due("place of its first " + n, x.place(), want == 0 ? -1 : want == 1 ? n : 10);
        }
    }

    /** "NONE without one (the TAPE stays)." */
    private static void againWithoutOutput() {
        RasterMint x = new RasterMint();
        Check.tape(x, Bytes.of("P1 1 1 0"));
        Check.due("again()", x.again(), -1);
        Check.due("the tape has no byte more", x.end(9), false);
        Check.due("the tape has no byte less", x.end(8), true);
        x.make(1, 1, 1, 0);
        Check.due("a form that does not hold it", x.write(1, 1), -1);
        Check.due("a shelf that is empty", x.write(2, 0), -2);
        Check.due("a chain of none", x.chain(1, 0, 0), 0);
        Check.due("a chain whose first form does not hold it", x.chain(1, 1, 1), 0);
        Check.due("still no output", x.again(), -1);
        Check.due("the tape is read", x.read(1, 0), 0);
        Check.due("its pixel", x.pixel(0, 0, 0), -1);
        Check.due("a file that was read is no output", x.again(), -1);
    }

    /** "The OUTPUT becomes the TAPE (it stays the OUTPUT, too)". */
    private static void againLongerAndShorter() {
        RasterMint x = new RasterMint();
        x.make(0, 1, 1, 0x616263FF);
        Check.due("write", x.write(0, 6), 14);
        for (int n : new int[] {0, 1, 13, 14, 15, 40}) {
            x.end(0);
            x.feed(-1, -1, -1, -1, -1);
            x.feed(-1, -1, -1, -1, -1);
            x.end(n);
            Check.due("again() in place of " + n, x.again(), 14);
            Check.due("no byte of the old tape", x.end(15), false);
            Check.due("all bytes of the output", x.end(14), true);
            Check.due("read", x.read(1, 1), 0);
            Check.due("same", x.same(0, 1), true);
            Check.due("the output stays", x.bytes(6), 0x0A3235350A616263L);
            Check.due("the output's end stays", x.byteAt(14), -1);
        }
        x.again();
        x.end(3);
        x.feed(-1, -1, -1, -1, -1);
        Check.due("the tape is not the output itself", x.bytes(0), 0x50360A3120310A32L);
        Check.due("again", x.again(), 14);
        x.make(0, 64, 64, -1);
        Check.due("the longest output", x.write(0, 3), 49165);
        Check.due("again", x.again(), 49165);
        Check.due("its end", x.end(49166), false);
        Check.due("feed behind", x.feed(0x20202020, 0x20202020, 0x20202020, 0x20202020, 0x20202020), 49185);
        Check.due("read", x.read(1, 2), 0);
        Check.due("same", x.same(0, 2), true);
    }

    /** "IllegalArgumentException: no such shelf; NoSuchElementException: no such family." The first listed goes first. */
    private static void readThrows() {
        for (int shelf : NO_SHELF) {
            for (int family : new int[] {-1, 0, 1, 4, 5, MIN, MAX}) {
                refused("read(" + family + ", " + shelf + ")", NO_RASTER, x -> x.read(family, shelf));
            }
        }
        for (int family : new int[] {-1, 5, MIN, MAX}) {
            for (int shelf = 0; shelf < 4; shelf++) {
                int at = shelf;
                refused("read(" + family + ", " + shelf + ")", NO_ELEMENT, x -> x.read(family, at));
            }
        }
    }

    /** "or the FAULT, the shelf stays as it was", the TAPE "is empty then". */
    private static void readFaults() {
        int[] faults = {2, 0, 2, 2, 2};
        int[] places = {0, -1, 0, 1, 0};
        for (int family = 0; family < 5; family++) {
            for (int shelf = 0; shelf < 4 && family != 1; shelf++) {
                RasterMint x = House.make();
                String call = "read(" + family + ", " + shelf + ") of another family's file";
                Check.due(call, x.read(family, shelf), faults[family]);
                Check.due(call + ": place()", x.place(), places[family]);
                House.shelvesStill(call, x);
                House.outputStill(call, x);
                House.toldStill(call, x);
                Check.due(call + ": the tape is empty", x.end(1), false);
            }
        }
    }

    /** "0, the shelf has its raster": the first and the last family, the first and the last shelf. */
    private static void readTakes() {
        for (int shelf = 0; shelf < 4; shelf++) {
            for (int form : new int[] {0, 6, 7, 10, 16}) {
                RasterMint x = new RasterMint();
                int family = form == 0 ? 0 : form == 6 ? 1 : form == 7 ? 2 : form == 10 ? 3 : 4;
                int other = 3 - shelf;
                x.make(other, 3, 2, 0x102030FF);
                x.make(shelf, 64, 64, 77);
                x.copy(other, shelf);
                x.write(shelf, form);
                x.make(shelf, 64, 64, 77);
                x.again();
                String call = "read(" + family + ", " + shelf + ")";
                Check.due(call, x.read(family, shelf), 0);
                Check.due(call + ": same", x.same(shelf, other), true);
                Check.due(call + ": place()", x.place(), -1);
                Check.due(call + ": told(0)", x.told(0), family);
                Check.due(call + ": the tape is empty", x.end(1), false);
            }
        }
    }

    /** "of the latest read() that answered; NONE ahead of any, or if it answered 0." */
    private static void placeOfReads() {
        RasterMint x = new RasterMint();
        Check.due("ahead of any", x.place(), -1);
        Check.dueThrow("a read that throws", NO_ELEMENT, () -> x.read(5, 0));
        Check.due("ahead of any that answered", x.place(), -1);
        x.make(0, 1, 1, 5);
        x.chain(0, 0, 1);
        Check.due("a chain is no read", x.place(), -1);
        Check.due("an empty tape", x.read(4, 1), 1);
        Check.due("place 0", x.place(), 0);
        Check.dueThrow("a read that throws", NO_RASTER, () -> x.read(0, 4));
        Check.due("the place stays", x.place(), 0);
        x.chain(0, 0, 1);
        Check.due("the place stays behind a chain", x.place(), 0);
        x.again();
        Check.due("a read with 0", x.read(0, 1), 0);
        Check.due("no place", x.place(), -1);
        Check.due("an empty tape again", x.read(0, 1), 1);
        Check.due("place 0 again", x.place(), 0);
    }

    /** "NONE ahead of any, or for another what." */
    private static void toldWhats() {
        int[] due = {-1, 1, 2, 9, 8, -1, -1, -1};
        int[] whats = {-1, 0, 1, 2, 3, 4, MIN, MAX};
        for (int k = 0; k < whats.length; k++) {
            int what = whats[k];
            Check.due("told(" + what + ") ahead of any", new RasterMint().told(what), -1);
            refused("told(" + what + ")", due[k], x -> x.told(what));
        }
    }

    /** "Of the latest file that was read with 0 (by chain(), too)". */
    private static void toldOfReads() {
        RasterMint x = new RasterMint();
        Check.due("an empty tape", x.read(0, 0), 1);
        Check.due("ahead of any that was read with 0", x.told(0), -1);
        x.make(0, 2, 2, -1);
        x.write(0, 4);
        Check.due("what is written is not told", x.told(0), -1);
        x.chain(0, 4, 1);
        Check.due("what a chain read", x.told(1), 4);
        Check.due("a chain of none", x.chain(0, 0, 0), 0);
        Check.due("stays", x.told(1), 4);
        Check.due("a chain up to its second form", x.chain(0, 5 | 18 << 5, 2), 1);
        Check.due("what it read first", x.told(1), 5);
        Check.tape(x, Bytes.of("P5 1 1 7"));
        Check.due("a fault", x.read(1, 3), 1);
        Check.due("stays", x.told(2), 255);
        Check.tape(x, Bytes.of("P5 1 1 7 \7"));
        Check.due("a read", x.read(1, 3), 0);
        Check.due("what it read", x.told(2), 7);
    }

    /** "NONE if the form does not hold it, -2 if the shelf is empty, or there is no such shelf or form (the OUTPUT stays)." */
    private static void writeRefused() {
        for (int form : new int[] {-1, 18, MIN, MAX}) {
            refused("write(0, " + form + ")", -2, x -> x.write(0, form));
            refused("write(2, " + form + ")", -2, x -> x.write(House.EMPTY_SHELF, form));
        }
        for (int shelf : NO_SHELF) {
            refused("write(" + shelf + ", 0)", -2, x -> x.write(shelf, 0));
            refused("write(" + shelf + ", 17)", -2, x -> x.write(shelf, 17));
            refused("write(" + shelf + ", 18)", -2, x -> x.write(shelf, 18));
        }
        for (int k = 0; k < 18; k++) {
            int form = k;
            refused("write(2, " + form + ")", -2, x -> x.write(House.EMPTY_SHELF, form));
        }
        for (int form : new int[] {1, 2, 3, 4, 5, 6, 7, 8, 9, 12, 13, 16, 17}) {
            refused("write(0, " + form + ")", -1, x -> x.write(0, form));
        }
        for (int form : new int[] {1, 2, 4, 5, 8, 9, 12, 13, 14, 15, 17}) {
            refused("write(3, " + form + ")", -1, x -> x.write(House.MANY_COLOURS, form));
        }
    }

    /** The first and the last form, the first and the last shelf; a write changes the OUTPUT alone. */
    private static void writeTakes() {
        int[] sizes = {26, 13, 21, 41, 9, 15, 23, 70, 70, 72, 30, 29, 22, 23, 28, 29, 143, 901};
        for (int form = 0; form < 18; form++) {
            RasterMint x = House.make();
            String call = "write(1, " + form + ")";
            int n = x.write(1, form);
            Check.due(call, n, sizes[form]);
            Check.due(call + ": its last byte", x.byteAt(n - 1) >= 0, true);
            Check.due(call + ": its end", x.byteAt(n), -1);
            House.shelvesStill(call, x);
            House.toldStill(call, x);
            Check.due(call + ": place() stays", x.place(), House.PLACE);
            House.tapeStill(call, x);
        }
        RasterMint x = House.make();
        x.copy(1, 3);
        Check.due("write(3, 17)", x.write(3, 17), sizes[17]);
        Check.due("write(3, 0)", x.write(3, 0), sizes[0]);
        x.copy(1, 0);
        Check.due("write(0, 17)", x.write(0, 17), sizes[17]);
        Check.due("write(0, 0)", x.write(0, 0), sizes[0]);
    }

    /** "Byte i of the OUTPUT; NONE if there is none." */
    private static void byteAtEnds() {
        int n = House.OUTPUT_BYTES;
        int[] places = {-1, 0, n - 1, n, n + 1, 65535, 65536, MIN, MAX};
        int[] due = {-1, 'P', 0, -1, -1, -1, -1, -1, -1};
        for (int k = 0; k < places.length; k++) {
            int i = places[k];
            refused("byteAt(" + i + ")", due[k], x -> x.byteAt(i));
            Check.due("byteAt(" + i + ") without an output", new RasterMint().byteAt(i), -1);
        }
    }

    /** "bytes behind its end are 0. NoSuchElementException: there is no byte i." */
    private static void bytesAtEnds() {
        int n = House.OUTPUT_BYTES;
        refused("the first eight", 0x50350A3220320A32L, x -> x.bytes(0));
        refused("up to the last but one", 0x0A3235350A00FF00L, x -> x.bytes(n - 9));
        refused("up to the last", 0x3235350A00FF0000L, x -> x.bytes(n - 8));
        refused("one behind the end", 0x35350A00FF000000L, x -> x.bytes(n - 7));
        refused("two behind the end", 0x350A00FF00000000L, x -> x.bytes(n - 6));
        refused("three of them", 0xFF00000000000000L, x -> x.bytes(n - 3));
        refused("the last alone", 0, x -> x.bytes(n - 1));
        for (int i : new int[] {-1, -8, n, n + 1, 65536, MIN, MAX, MAX - 7}) {
            refused("bytes(" + i + ")", NO_ELEMENT, x -> x.bytes(i));
            Check.dueThrow("bytes(" + i + ") without an output", NO_ELEMENT, () -> new RasterMint().bytes(i));
        }
        RasterMint x = new RasterMint();
        x.make(0, 5, 5, 0xFEDCBAFF);
        x.write(0, 7);
        int last = x.write(0, 0) - 1;
        Check.due("the last byte of a shorter one", x.bytes(last), 1L << 56);
        Check.dueThrow("behind a shorter one", NO_ELEMENT, () -> x.bytes(last + 1));
    }
}
