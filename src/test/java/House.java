import java.util.function.Consumer;

/**
 * An object with something in each of its places, made anew for each call that must change nothing, and asked behind
 * it for all that it has. Making, the call and asking stay below the 512 calls that the document promises.
 */
final class House {
    static final int EMPTY_SHELF = 2;
    static final int MANY_COLOURS = 3;
    static final int TAPE_BYTES = 17;
    static final int OUTPUT_BYTES = 15;
    static final int PLACE = 7;

    private static final byte[] TAPE = Bytes.of("P6 2 1 255 abcdef");
    private static final byte[] OUTPUT = Bytes.of("P5\n2 2\n255\n\000\377\000\000");

    private House() {
    }

    static RasterMint make() {
        RasterMint x = new RasterMint();
        Check.tape(x, Bytes.of("P2 1 1 9 4"));
        x.read(1, 1);
        Check.tape(x, Bytes.of("P1 1 1 x"));
        x.read(1, EMPTY_SHELF);
        x.make(0, 3, 2, 0);
        x.sweep(0, 0, 0, 6, 0x01020304, 0x10203040);
        x.make(1, 2, 2, 0x000000FF);
        x.dot(1, 1, 0, -1);
        x.make(MANY_COLOURS, 257, 1, 0);
        x.sweep(MANY_COLOURS, 0, 0, 257, 255, 256);
        x.write(1, 5);
        Check.tape(x, TAPE);
        return x;
    }

    /** The call is made on a new object, and leaves all as it was. */
    static void still(String call, Consumer<RasterMint> made) {
        RasterMint x = make();
        made.accept(x);
        shelvesStill(call, x);
        outputStill(call, x);
        Check.due(call + ": place() stays", x.place(), PLACE);
        toldStill(call, x);
        tapeStill(call, x);
    }

    static void shelvesStill(String call, RasterMint x) {
        shelfStill(call, x, 0, 3, 2, 0x01020304, 0x10203040);
        Check.due(call + ": width 1 stays", x.raster(1, 0), 2);
        Check.due(call + ": height 1 stays", x.raster(1, 1), 2);
        Check.due(call + ": pixel 0, 0 of 1 stays", x.pixel(1, 0, 0), 255);
        Check.due(call + ": pixel 1, 0 of 1 stays", x.pixel(1, 1, 0), -1);
        Check.due(call + ": pixel 0, 1 of 1 stays", x.pixel(1, 0, 1), 255);
        Check.due(call + ": pixel 1, 1 of 1 stays", x.pixel(1, 1, 1), 255);
        Check.due(call + ": shelf 2 stays empty", x.raster(EMPTY_SHELF, 0), -1);
        shelfStill(call, x, MANY_COLOURS, 257, 1, 255, 256);
    }

    private static void shelfStill(String call, RasterMint x, int shelf, int width, int height, int v, int step) {
        Check.due(call + ": width " + shelf + " stays", x.raster(shelf, 0), width);
        Check.due(call + ": height " + shelf + " stays", x.raster(shelf, 1), height);
        for (int i = 0; i < width * height; i++) {
            Check.due(call + ": pixel " + i + " of " + shelf + " stays", x.pixel(shelf, i % width, i / width),
                v + i * step);
        }
    }

    static void outputStill(String call, RasterMint x) {
        for (int i = 0; i < OUTPUT_BYTES; i++) {
            Check.due(call + ": byte " + i + " of the output stays", x.byteAt(i), OUTPUT[i] & 255);
        }
        Check.due(call + ": the output's end stays", x.byteAt(OUTPUT_BYTES), -1);
    }

    static void toldStill(String call, RasterMint x) {
        int[] told = {1, 2, 9, 8};
        for (int what = 0; what < 4; what++) {
            Check.due(call + ": told(" + what + ") stays", x.told(what), told[what]);
        }
    }

    /** Asked last: the TAPE is read, and so is gone then. */
    static void tapeStill(String call, RasterMint x) {
        Check.due(call + ": the tape has no byte more", x.end(TAPE_BYTES + 1), false);
        Check.due(call + ": the tape has no byte less", x.end(TAPE_BYTES), true);
        Check.due(call + ": the tape can be read", x.read(1, EMPTY_SHELF), 0);
        Check.due(call + ": the tape's first pixel", x.pixel(EMPTY_SHELF, 0, 0), 0x616263FF);
        Check.due(call + ": the tape's second pixel", x.pixel(EMPTY_SHELF, 1, 0), 0x646566FF);
    }
}
