import java.util.function.ToLongFunction;

/** Each sentence of promises 11 to 19 that names a bound: the last that is taken, the first that is not. */
public final class EdgeRasterTest {
    private static final int MIN = Integer.MIN_VALUE;
    private static final int MAX = Integer.MAX_VALUE;
    private static final int BLACK = 0x000000FF;
    private static final int WHITE = 0xFFFFFFFF;
    private static final int[] NO_SHELF = {-1, 4, MIN, MAX};
    private static final Class<IllegalArgumentException> NO_RASTER = IllegalArgumentException.class;
    private static final Class<IndexOutOfBoundsException> NO_PIXEL = IndexOutOfBoundsException.class;

    public static void main(String[] args) {
        makeTakes();
        makeRefuses();
        makeLeavesTheRest();
        noRaster();
        noPixel();
        corners();
        sweepCounts();
        sweepGoesRound();
        rasterWhats();
        rasterColours();
        rasterKinds();
        holdsNothing();
        holdsAtItsBounds();
        copyRefuses();
        copyTakes();
        sameRefuses();
        sameTakes();
        chainRefuses();
        chainCounts();
        chainStops();
        chainBits();
        Check.finish("EdgeRasterTest");
    }

    private static void still(String call, long want, ToLongFunction<RasterMint> made) {
        House.still(call, x -> Check.due(call, made.applyAsLong(x), want));
    }

    private static void still(String call, Class<? extends RuntimeException> want, ToLongFunction<RasterMint> made) {
        House.still(call, x -> Check.dueThrow(call, want, () -> made.applyAsLong(x)));
    }

    private static int forms(int... forms) {
        int all = 0;
        for (int k = 0; k < forms.length; k++) {
            all |= forms[k] << 5 * k;
        }
        return all;
    }

    /** "WIDTH, HEIGHT from 1 on, at most 4096 PIXELS": what is taken. */
    private static void makeTakes() {
        int[][] sizes = {{1, 1}, {1, 2}, {2, 1}, {4096, 1}, {1, 4096}, {4095, 1}, {1, 4095}, {64, 64}, {2, 2048},
            {2048, 2}, {63, 65}, {45, 91}, {1365, 3}};
        for (int[] size : sizes) {
            for (int shelf = 0; shelf < 4; shelf++) {
                RasterMint x = new RasterMint();
                String call = "make(" + shelf + ", " + size[0] + ", " + size[1] + ")";
                Check.due(call, x.make(shelf, size[0], size[1], 0x01020304), true);
                Check.due(call + ": width", x.raster(shelf, 0), size[0]);
                Check.due(call + ": height", x.raster(shelf, 1), size[1]);
                Check.due(call + ": all pixels alike", x.raster(shelf, 2), 1);
                Check.due(call + ": the first one", x.pixel(shelf, 0, 0), 0x01020304);
                Check.due(call + ": the last one", x.pixel(shelf, size[0] - 1, size[1] - 1), 0x01020304);
            }
        }
    }

    /** "false, changing nothing, if there is no such shelf, a size below 1, or above 4096 PIXELS." */
    private static void makeRefuses() {
        int[][] sizes = {{0, 1}, {1, 0}, {0, 0}, {-1, 1}, {1, -1}, {-1, -1}, {-64, -64}, {MIN, 1}, {1, MIN}, {MIN, MIN},
            {4097, 1}, {1, 4097}, {17, 241}, {241, 17}, {64, 65}, {65, 64}, {4096, 2}, {2, 2049}, {MAX, 1}, {1, MAX},
            {MAX, MAX}, {65536, 65536}, {65536, 65537}, {1 << 30, 4}, {1 << 20, 1 << 12}, {MIN, 2}, {-4096, -1}};
        for (int[] size : sizes) {
            String call = "make(0, " + size[0] + ", " + size[1] + ")";
            still(call, 0, x -> x.make(0, size[0], size[1], 9) ? 1 : 0);
        }
        still("make(2, 0, 0) on the empty shelf", 0, x -> x.make(House.EMPTY_SHELF, 0, 0, 9) ? 1 : 0);
        still("make(2, 4097, 1) on the empty shelf", 0, x -> x.make(House.EMPTY_SHELF, 4097, 1, 9) ? 1 : 0);
        for (int shelf : NO_SHELF) {
            still("make(" + shelf + ", 1, 1)", 0, x -> x.make(shelf, 1, 1, 9) ? 1 : 0);
        }
    }

    private static void makeLeavesTheRest() {
        RasterMint x = House.make();
        x.make(House.EMPTY_SHELF, 64, 64, 5);
        x.copy(House.EMPTY_SHELF, House.EMPTY_SHELF);
        x.make(House.EMPTY_SHELF, 1, 1, 6);
        Check.due("a smaller one in place of a larger one", x.raster(House.EMPTY_SHELF, 2), 1);
        Check.due("its pixel", x.pixel(House.EMPTY_SHELF, 0, 0), 6);
        Check.dueThrow("no pixel of the larger one", NO_PIXEL, () -> x.pixel(House.EMPTY_SHELF, 1, 0));
        House.outputStill("make", x);
        House.toldStill("make", x);
        House.tapeStill("make", x);
    }

    /** "IllegalArgumentException: no such shelf, or it is empty": ahead of "no such pixel". */
    private static void noRaster() {
        for (int shelf : new int[] {-1, House.EMPTY_SHELF, 4, MIN, MAX}) {
            for (int at : new int[] {0, -1, MAX}) {
                String where = "(" + shelf + ", " + at + ", " + at + ")";
                still("dot" + where, NO_RASTER, x -> x.dot(shelf, at, at, 9));
                still("pixel" + where, NO_RASTER, x -> x.pixel(shelf, at, at));
                still("sweep" + where, NO_RASTER, x -> x.sweep(shelf, at, at, 1, 9, 9));
                still("sweep of none" + where, NO_RASTER, x -> x.sweep(shelf, at, at, 0, 9, 9));
            }
        }
    }

    /** "IndexOutOfBoundsException: no such pixel." Of the raster of 3 x 2. */
    private static void noPixel() {
        int[][] outside = {{-1, 0}, {3, 0}, {0, -1}, {0, 2}, {3, 1}, {2, 2}, {-1, 1}, {2, -1}, {3, -1}, {-3, 1}, {5, 0},
            {MIN, 0}, {MAX, 0}, {0, MIN}, {0, MAX}, {MAX, MAX}, {MIN, MIN}, {0, 1431655766}};
        for (int[] at : outside) {
            String where = "(0, " + at[0] + ", " + at[1] + ")";
            still("dot" + where, NO_PIXEL, x -> x.dot(0, at[0], at[1], 9));
            still("pixel" + where, NO_PIXEL, x -> x.pixel(0, at[0], at[1]));
            still("sweep" + where, NO_PIXEL, x -> x.sweep(0, at[0], at[1], 1, 9, 9));
            still("sweep of none" + where, NO_PIXEL, x -> x.sweep(0, at[0], at[1], 0, 9, 9));
        }
    }

    private static void corners() {
        int[][] sizes = {{1, 1}, {3, 2}, {4096, 1}, {1, 4096}, {64, 64}};
        for (int[] size : sizes) {
            int right = size[0] - 1;
            int bottom = size[1] - 1;
            for (int[] at : new int[][] {{0, 0}, {right, 0}, {0, bottom}, {right, bottom}}) {
                RasterMint x = new RasterMint();
                x.make(3, size[0], size[1], 7);
                String where = at[0] + ", " + at[1] + " of " + size[0] + " x " + size[1];
                Check.due("dot " + where, x.dot(3, at[0], at[1], MIN), 7);
                Check.due("pixel " + where, x.pixel(3, at[0], at[1]), MIN);
                Check.due("dot again " + where, x.dot(3, at[0], at[1], 8), MIN);
                Check.due("one alone " + where, x.raster(3, 2), size[0] * size[1] == 1 ? 1 : 2);
                Check.due("sweep " + where, x.sweep(3, at[0], at[1], 1, 9, 1), 1);
                Check.due("pixel " + where, x.pixel(3, at[0], at[1]), 9);
                Check.dueThrow("right of it", NO_PIXEL, () -> x.pixel(3, size[0], at[1]));
                Check.dueThrow("below it", NO_PIXEL, () -> x.pixel(3, at[0], size[1]));
            }
        }
    }

    /** "at most n, none for an n below 1, to the raster's end": "how many did." */
    private static void sweepCounts() {
        for (int n : new int[] {0, -1, MIN}) {
            still("sweep of " + n, 0, x -> x.sweep(0, 0, 0, n, 9, 9));
            still("sweep of " + n + " from the last one", 0, x -> x.sweep(0, 2, 1, n, 9, 9));
        }
        for (int start = 0; start < 6; start++) {
            for (int n : new int[] {1, 2, 5 - start, 6 - start, 7 - start, 4096, MAX}) {
                RasterMint x = new RasterMint();
                x.make(0, 3, 2, -7);
                int many = Math.max(0, Math.min(n, 6 - start));
                String call = "sweep of " + n + " from " + start;
                Check.due(call, x.sweep(0, start % 3, start / 3, n, 100, 10), many);
                for (int i = 0; i < 6; i++) {
                    boolean swept = i >= start && i < start + many;
                    Check.due(call + ": pixel " + i, x.pixel(0, i % 3, i / 3), swept ? 100 + 10 * (i - start) : -7);
                }
            }
        }
        RasterMint x = new RasterMint();
        x.make(0, 64, 64, -7);
        Check.due("sweep of 4095 of 4096", x.sweep(0, 0, 0, 4095, 0, 0), 4095);
        Check.due("the last one stays", x.pixel(0, 63, 63), -7);
        Check.due("sweep of 4096 of 4096", x.sweep(0, 0, 0, 4096, 0, 1), 4096);
        Check.due("the last one", x.pixel(0, 63, 63), 4095);
        Check.due("sweep of 4097 of 4096", x.sweep(0, 0, 0, 4097, 1, 1), 4096);
        Check.due("the last one", x.pixel(0, 63, 63), 4096);
    }

    /** "each pixel k (from 0 on) becomes v + k * step (as ints)". */
    private static void sweepGoesRound() {
        RasterMint x = new RasterMint();
        x.make(1, 5, 1, 0);
        int[][] runs = {{MAX, 1, MAX, MIN, MIN + 1, MIN + 2, MIN + 3}, {MIN, -1, MIN, MAX, MAX - 1, MAX - 2, MAX - 3},
            {0, MIN, 0, MIN, 0, MIN, 0}, {1, MAX, 1, MIN, -1, MAX - 1, -3}, {-1, 1, -1, 0, 1, 2, 3}};
        for (int[] run : runs) {
            x.sweep(1, 0, 0, 5, run[0], run[1]);
            for (int k = 0; k < 5; k++) {
                Check.due("from " + run[0] + " by " + run[1] + ": " + k, x.pixel(1, k, 0), run[2 + k]);
            }
        }
    }

    /** "NONE without one, or for another what." */
    private static void rasterWhats() {
        int[] whats = {-1, 0, 1, 2, 3, 4, 5, 6, MIN, MAX};
        int[] due = {-1, 2, 2, 2, 1, 1, 1, -1, -1, -1};
        for (int k = 0; k < whats.length; k++) {
            int what = whats[k];
            still("raster(1, " + what + ")", due[k], x -> x.raster(1, what));
            still("raster(2, " + what + ")", -1, x -> x.raster(House.EMPTY_SHELF, what));
            for (int shelf : NO_SHELF) {
                still("raster(" + shelf + ", " + what + ")", -1, x -> x.raster(shelf, what));
            }
        }
    }

    /** "COLOURS: the unlike pixels": from 1 up to 4096 of them, unlike in any bit. */
    private static void rasterColours() {
        for (int bit = 0; bit < 32; bit++) {
            RasterMint x = new RasterMint();
            x.make(0, 3, 1, 0x5A5A5A5A);
            x.dot(0, 2, 0, 0x5A5A5A5A ^ 1 << bit);
            Check.due("unlike in bit " + bit, x.raster(0, 2), 2);
        }
        for (int many : new int[] {1, 2, 255, 256, 257, 4095, 4096}) {
            for (int step : new int[] {1, 256, 65536 + 1, 1 << 20, 0x01010101, -1, 0x9E3779B1}) {
                RasterMint x = new RasterMint();
                x.make(0, 4096, 1, 255);
                x.sweep(0, 4096 - many, 0, many, 255, step);
                Check.due(many + " colours by " + step, x.raster(0, 2), many);
            }
        }
    }

    /** "OPAQUE: all alphas are 255. GRAY: .. alike in each pixel. PLAIN: each pixel is black .. or white". */
    private static void rasterKinds() {
        int[][] kinds = {{BLACK, 1, 1, 1}, {WHITE, 1, 1, 1}, {0x000000FE, 0, 1, 0}, {0xFFFFFFFE, 0, 1, 0},
            {0x000001FF, 1, 0, 0}, {0x000100FF, 1, 0, 0}, {0x010000FF, 1, 0, 0}, {0x010101FF, 1, 1, 0},
            {0xFEFEFEFF, 1, 1, 0}, {0xFFFFFEFF, 1, 0, 0}, {0xFFFEFFFF, 1, 0, 0}, {0xFEFFFFFF, 1, 0, 0},
            {0x00000000, 0, 1, 0}, {0xFFFFFF00, 0, 1, 0}, {0x80808000, 0, 1, 0}, {0x01000080, 0, 0, 0},
            {0x0100FFFF, 1, 0, 0}, {0x00FFFFFF, 1, 0, 0}, {0xFF0000FF, 1, 0, 0}, {0x00FF00FF, 1, 0, 0}};
        for (int[] kind : kinds) {
            for (int at : new int[] {0, 5, 11}) {
                RasterMint x = new RasterMint();
                x.make(0, 4, 3, at == 5 ? WHITE : BLACK);
                x.dot(0, at % 4, at / 4, kind[0]);
                String name = Integer.toHexString(kind[0]) + " at " + at;
                Check.due(name + ": opaque", x.raster(0, 3), kind[1]);
                Check.due(name + ": gray", x.raster(0, 4), kind[2]);
                Check.due(name + ": plain", x.raster(0, 5), kind[3]);
            }
        }
    }

    /** "false without one, or without such a form." */
    private static void holdsNothing() {
        for (int form : new int[] {-1, 18, 31, 32, MIN, MAX}) {
            still("holds(1, " + form + ")", 0, x -> x.holds(1, form) ? 1 : 0);
        }
        for (int k = 0; k < 18; k++) {
            int form = k;
            still("holds(1, " + form + ")", 1, x -> x.holds(1, form) ? 1 : 0);
            still("holds(2, " + form + ")", 0, x -> x.holds(House.EMPTY_SHELF, form) ? 1 : 0);
            for (int shelf : NO_SHELF) {
                still("holds(" + shelf + ", " + form + ")", 0, x -> x.holds(shelf, form) ? 1 : 0);
            }
        }
    }

    /** "A form HOLDS": each of its words, by a raster that is just so and one that is just not. */
    private static void holdsAtItsBounds() {
        String every = " 0 10 11 ";
        String few = every + "14 15 ";
        String opaque = every + "3 6 7 16 ";
        String opaqueFew = opaque + "8 9 14 15 17 ";
        String gray = opaqueFew + "2 5 12 13 ";
        String plain = gray + "1 4 ";
        held("black", plain, 1, BLACK, 0);
        held("white", plain, 4096, WHITE, 0);
        held("black, white in turn", plain, 9, BLACK, 0xFFFFFF00);
        held("not quite black", gray, 1, 0x010101FF, 0);
        held("not quite white", gray, 1, 0xFEFEFEFF, 0);
        held("256 grays", gray, 256, BLACK, 0x01010100);
        held("not quite gray", opaqueFew, 1, 0x010100FF, 0);
        held("256 colours", opaqueFew, 256, BLACK, 256);
        held("257 colours", opaque, 257, BLACK, 256);
        held("4096 colours", opaque, 4096, BLACK, 256);
        held("not quite opaque", few, 1, 0xFFFFFFFE, 0);
        held("256 clear colours", few, 256, 0x000000FE, 256);
        held("256 alphas", few, 256, 0, 1);
        held("257 clear colours", every, 257, 0x000000FE, 256);
        held("257 with alphas", every, 257, 0, 1);
        held("4096 with alphas", every, 4096, 0, 1);
    }

    private static void held(String name, String forms, int many, int v, int step) {
        RasterMint x = new RasterMint();
        x.make(0, many, 1, v);
        if (step == 0xFFFFFF00) {
            for (int k = 1; k < many; k += 2) {
                x.dot(0, k, 0, v + step);
            }
        } else {
            x.sweep(0, 0, 0, many, v, step);
        }
        for (int form = 0; form < 18; form++) {
            boolean due = forms.contains(" " + form + " ");
            Check.due(name + ": holds(0, " + form + ")", x.holds(0, form), due);
            Check.due(name + ": write(0, " + form + ") is refused", x.write(0, form) == -1, !due);
            x.copy(0, 1);
            Check.due(name + ": chain(1, " + form + ", 1)", x.chain(1, form, 1), due ? 1 : 0);
            Check.due(name + ": the raster stays", x.same(0, 1), true);
        }
    }

    /** "false if there is no such shelf." */
    private static void copyRefuses() {
        for (int shelf : NO_SHELF) {
            for (int other = 0; other < 4; other++) {
                int to = other;
                still("copy(" + shelf + ", " + to + ")", 0, x -> x.copy(shelf, to) ? 1 : 0);
                still("copy(" + to + ", " + shelf + ")", 0, x -> x.copy(to, shelf) ? 1 : 0);
            }
            still("copy(" + shelf + ", " + shelf + ")", 0, x -> x.copy(shelf, shelf) ? 1 : 0);
        }
    }

    /** "The shelf to has the raster of the other one (empty if that is)". */
    private static void copyTakes() {
        for (int shelf = 0; shelf < 4; shelf++) {
            int from = shelf;
            still("copy on itself of " + shelf, 1, x -> x.copy(from, from) ? 1 : 0);
            for (int to = 0; to < 4; to++) {
                RasterMint x = House.make();
                String call = "copy(" + shelf + ", " + to + ")";
                int width = x.raster(shelf, 0);
                int height = x.raster(shelf, 1);
                int colours = x.raster(shelf, 2);
                Check.due(call, x.copy(shelf, to), true);
                Check.due(call + ": same", x.same(shelf, to), true);
                Check.due(call + ": width", x.raster(to, 0), width);
                Check.due(call + ": height", x.raster(to, 1), height);
                Check.due(call + ": colours", x.raster(to, 2), colours);
                Check.due(call + ": the other one's width", x.raster(shelf, 0), width);
                House.outputStill(call, x);
                House.toldStill(call, x);
            }
        }
        RasterMint x = new RasterMint();
        x.make(0, 64, 64, 0);
        x.sweep(0, 0, 0, 4096, 1, 3);
        Check.due("copy of 4096 pixels", x.copy(0, 3), true);
        Check.due("the last one", x.pixel(3, 63, 63), 1 + 4095 * 3);
        Check.due("same", x.same(0, 3), true);
        x.dot(3, 63, 63, 0);
        Check.due("the other one's last stays", x.pixel(0, 63, 63), 1 + 4095 * 3);
        x.copy(1, 0);
        Check.due("empty as that is", x.same(0, 1), true);
        Check.dueThrow("empty as that is", NO_RASTER, () -> x.pixel(0, 0, 0));
    }

    /** "false if there is no such shelf." */
    private static void sameRefuses() {
        for (int shelf : NO_SHELF) {
            for (int k = 0; k < 4; k++) {
                int other = k;
                still("same(" + shelf + ", " + k + ")", 0, x -> x.same(shelf, other) ? 1 : 0);
                still("same(" + k + ", " + shelf + ")", 0, x -> x.same(other, shelf) ? 1 : 0);
            }
            still("same(" + shelf + ", " + shelf + ")", 0, x -> x.same(shelf, shelf) ? 1 : 0);
        }
    }

    /** "Whether two shelves have the same raster (both empty: so, too)". */
    private static void sameTakes() {
        for (int a = 0; a < 4; a++) {
            for (int b = 0; b < 4; b++) {
                int one = a;
                int other = b;
                still("same(" + a + ", " + b + ")", a == b ? 1 : 0, x -> x.same(one, other) ? 1 : 0);
            }
        }
        RasterMint x = new RasterMint();
        x.make(0, 64, 64, 5);
        x.make(1, 64, 64, 5);
        Check.due("alike", x.same(0, 1), true);
        for (int i : new int[] {0, 63, 64, 4032, 4094, 4095}) {
            for (int bit = 0; bit < 32; bit += 31) {
                x.dot(1, i % 64, i / 64, 5 ^ 1 << bit);
                Check.due("unlike at " + i, x.same(0, 1), false);
                x.dot(1, i % 64, i / 64, 5);
                Check.due("alike again", x.same(0, 1), true);
            }
        }
        x.make(1, 64, 63, 5);
        Check.due("a row less", x.same(0, 1), false);
        x.make(1, 63, 64, 5);
        Check.due("a column less", x.same(0, 1), false);
        x.make(1, 32, 128, 5);
        Check.due("as many in other rows", x.same(0, 1), false);
        x.copy(2, 1);
        Check.due("one empty", x.same(0, 1), false);
        x.make(0, 1, 1, 0);
        Check.due("one of a pixel, one empty", x.same(0, 1), false);
        x.copy(2, 0);
        Check.due("empty after rasters", x.same(0, 1), true);
    }

    /** "NONE if there is no such shelf, it is empty, or for another n." */
    private static void chainRefuses() {
        for (int n : new int[] {-1, 7, 8, 32, MIN, MAX}) {
            still("chain(1, 0, " + n + ")", -1, x -> x.chain(1, 0, n));
            still("chain(1, -1, " + n + ")", -1, x -> x.chain(1, -1, n));
        }
        for (int shelf : new int[] {-1, House.EMPTY_SHELF, 4, MIN, MAX}) {
            for (int n : new int[] {-1, 0, 1, 6, 7}) {
                still("chain(" + shelf + ", 0, " + n + ")", -1, x -> x.chain(shelf, 0, n));
            }
        }
    }

    /** "n times (0 .. 6)". */
    private static void chainCounts() {
        still("chain of none", 0, x -> x.chain(0, 0, 0));
        still("chain of none, no form", 0, x -> x.chain(0, -1, 0));
        int all = forms(0, 3, 7, 11, 15, 16);
        int[] families = {-1, 0, 1, 2, 3, 3, 4};
        for (int shelf = 0; shelf < 4; shelf++) {
            for (int n = 0; n <= 6; n++) {
                RasterMint x = new RasterMint();
                x.make(shelf, 3, 2, 0x010203FF);
                x.copy(shelf, 3 - shelf);
                String call = "chain(" + shelf + ", .., " + n + ")";
                Check.due(call, x.chain(shelf, all, n), n);
                Check.due(call + ": told(0)", x.told(0), families[n]);
                Check.due(call + ": an output", x.byteAt(0) >= 0, n > 0);
                Check.due(call + ": the raster stays", x.same(shelf, 3 - shelf), true);
            }
        }
    }

    /** "up to the first form that does not hold it, or is none: how many were done. .. (The TAPE, place() stay.)" */
    private static void chainStops() {
        still("a first form that does not hold it", 0, x -> x.chain(0, forms(1, 0, 0, 0, 0, 0), 6));
        still("a first form that is none", 0, x -> x.chain(0, forms(18, 0, 0, 0, 0, 0), 6));
        still("257 colours", 0, x -> x.chain(House.MANY_COLOURS, forms(8, 0), 2));
        for (int none : new int[] {18, 19, 31}) {
            still("form " + none, 0, x -> x.chain(1, none, 1));
        }
        for (int stop : new int[] {1, 17, 18, 31}) {
            for (int k = 1; k < 6; k++) {
                int[] forms = {10, 0, 14, 11, 15, 10};
                forms[k] = stop;
                RasterMint x = House.make();
                String call = "form " + stop + " at " + k;
                Check.due(call, x.chain(0, forms(forms), 6), k);
                Check.due(call + ": told(0)", x.told(0), forms[k - 1] == 0 ? 0 : 3);
                House.shelvesStill(call, x);
                Check.due(call + ": place() stays", x.place(), House.PLACE);
                byte[] output = Check.output(x);
                Check.due(call + ": the output is of the last done", x.write(0, forms[k - 1]), output.length);
                Check.due(call + ": its bytes", java.util.Arrays.equals(output, Check.output(x)), true);
                House.tapeStill(call, x);
            }
        }
        Check.due("the last form", House.make().chain(1, forms(17, 17, 17, 17, 17), 5), 5);
    }

    /** "the k-th one, from 0 on: forms >> 5 * k & 31". */
    private static void chainBits() {
        RasterMint x = new RasterMint();
        x.make(0, 2, 2, BLACK);
        for (int k = 0; k < 6; k++) {
            for (int form = 0; form < 32; form++) {
                int forms = form << 5 * k;
                String call = "chain(0, " + forms + ", " + (k + 1) + ")";
                Check.due(call, x.chain(0, forms, k + 1), form < 18 ? k + 1 : k);
                Check.due(call + " without the last", x.chain(0, forms, k), k);
            }
        }
        RasterMint y = new RasterMint();
        y.make(0, 2, 2, BLACK);
        int five = forms(0, 0, 0, 0, 0);
        Check.due("the highest two bits are not asked", y.chain(0, five | 17 << 25 | 3 << 30, 6), 6);
        Check.due("they come in by no sign", y.chain(0, five | 17 << 25 | MIN, 6), 6);
        Check.due("one form more", y.chain(0, five | 18 << 25, 6), 5);
        Check.due("told of the fifth", y.told(0), 0);
    }
}
