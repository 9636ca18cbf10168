/** Promises 11 to 15, 17, 18: rasters on their shelves. */
public final class RasterTest {
    private static final int[] NO_SHELF = {-1, 4, 5, Integer.MIN_VALUE, Integer.MAX_VALUE};

    public static void main(String[] args) {
        making();
        dots();
        sweeps();
        pixels();
        wrongPlaces();
        whats();
        copies();
        sames();
        Check.finish("RasterTest");
    }

    private static void making() {
        RasterMint x = new RasterMint();
        for (int shelf = 0; shelf < 4; shelf++) {
            Check.due("make", x.make(shelf, 2 + shelf, 3, 40 + shelf), true);
        }
        for (int shelf = 0; shelf < 4; shelf++) {
            Check.due("width", x.raster(shelf, 0), 2 + shelf);
            Check.due("height", x.raster(shelf, 1), 3);
            for (int i = 0; i < 3 * (2 + shelf); i++) {
                Check.due("pixel", x.pixel(shelf, i % (2 + shelf), i / (2 + shelf)), 40 + shelf);
            }
        }
        int[][] wrong = {{0, 1}, {1, 0}, {-1, 1}, {1, -1}, {-1, -1}, {4097, 1}, {1, 4097}, {64, 65}, {65, 64},
            {65536, 65536}, {46341, 46341}, {Integer.MAX_VALUE, Integer.MAX_VALUE}, {Integer.MIN_VALUE, 2},
            {Integer.MIN_VALUE, Integer.MIN_VALUE}, {Integer.MAX_VALUE, 2}, {-64, -64}};
        for (int[] size : wrong) {
            Check.due("make of " + size[0] + " x " + size[1], x.make(0, size[0], size[1], 9), false);
            Check.due("nothing changes: width", x.raster(0, 0), 2);
            Check.due("nothing changes: pixel", x.pixel(0, 0, 0), 40);
        }
        for (int shelf : NO_SHELF) {
            Check.due("make on shelf " + shelf, x.make(shelf, 1, 1, 9), false);
        }
        for (int[] size : new int[][] {{4096, 1}, {1, 4096}, {64, 64}, {1, 1}}) {
            Check.due("make of " + size[0] + " x " + size[1], x.make(1, size[0], size[1], -7), true);
            Check.due("width", x.raster(1, 0), size[0]);
            Check.due("height", x.raster(1, 1), size[1]);
            Check.due("the last pixel", x.pixel(1, size[0] - 1, size[1] - 1), -7);
            Check.due("all alike", x.raster(1, 2), 1);
        }
    }

    private static void dots() {
        RasterMint x = new RasterMint();
        x.make(2, 3, 2, 7);
        for (int i = 0; i < 6; i++) {
            Check.due("dot", x.dot(2, i % 3, i / 3, 100 + i), 7);
        }
        for (int i = 0; i < 6; i++) {
            Check.due("pixel", x.pixel(2, i % 3, i / 3), 100 + i);
        }
        Check.due("dot again", x.dot(2, 2, 0, Integer.MIN_VALUE), 102);
        Check.due("dot again", x.dot(2, 2, 0, 5), Integer.MIN_VALUE);
    }

    private static void sweeps() {
        RasterMint x = new RasterMint();
        x.make(0, 3, 3, -5);
        Check.due("sweep over a row's end", x.sweep(0, 2, 0, 3, 10, 100), 3);
        int[] due = {-5, -5, 10, 110, 210, -5, -5, -5, -5};
        same(x, due);
        Check.due("sweep of 0", x.sweep(0, 0, 0, 0, 1, 1), 0);
        Check.due("sweep of -1", x.sweep(0, 0, 0, -1, 1, 1), 0);
        Check.due("sweep of MIN", x.sweep(0, 0, 0, Integer.MIN_VALUE, 1, 1), 0);
        same(x, due);
        Check.due("sweep to the end", x.sweep(0, 1, 2, 99, 3, -2), 2);
        due[7] = 3;
        due[8] = 1;
        same(x, due);
        Check.due("sweep of MAX", x.sweep(0, 0, 0, Integer.MAX_VALUE, Integer.MAX_VALUE, 0x40000000), 9);
        for (int k = 0; k < 9; k++) {
            due[k] = Integer.MAX_VALUE + k * 0x40000000;
        }
        same(x, due);
        Check.due("sweep of one", x.sweep(0, 2, 2, 1, 8, 9), 1);
        due[8] = 8;
        same(x, due);
        Check.due("sweep of one, the first", x.sweep(0, 0, 0, 1, 8, 9), 1);
        due[0] = 8;
        same(x, due);
    }

    private static void same(RasterMint x, int[] due) {
        for (int i = 0; i < 9; i++) {
            Check.due("pixel " + i, x.pixel(0, i % 3, i / 3), due[i]);
        }
    }

    private static void pixels() {
        RasterMint x = new RasterMint();
        x.make(3, 5, 4, 0);
        x.sweep(3, 0, 0, 20, 1000, 1);
        for (int y = 0; y < 4; y++) {
            for (int c = 0; c < 5; c++) {
                Check.due("pixel", x.pixel(3, c, y), 1000 + 5 * y + c);
            }
        }
    }

    private static void wrongPlaces() {
        RasterMint x = new RasterMint();
        x.make(0, 3, 2, 7);
        Class<IllegalArgumentException> noRaster = IllegalArgumentException.class;
        Class<IndexOutOfBoundsException> noPixel = IndexOutOfBoundsException.class;
        for (int shelf : new int[] {-1, 4, 1, 3, Integer.MIN_VALUE, Integer.MAX_VALUE}) {
            Check.dueThrow("dot on " + shelf, noRaster, () -> x.dot(shelf, 0, 0, 1));
            Check.dueThrow("pixel on " + shelf, noRaster, () -> x.pixel(shelf, 0, 0));
            Check.dueThrow("sweep on " + shelf, noRaster, () -> x.sweep(shelf, 0, 0, 1, 1, 1));
            Check.dueThrow("dot on " + shelf + " outside", noRaster, () -> x.dot(shelf, -1, 9, 1));
            Check.dueThrow("pixel on " + shelf + " outside", noRaster, () -> x.pixel(shelf, -1, 9));
            Check.dueThrow("sweep on " + shelf + " outside", noRaster, () -> x.sweep(shelf, -1, 9, 0, 1, 1));
        }
        int[][] outside = {{-1, 0}, {0, -1}, {3, 0}, {0, 2}, {3, 2}, {-1, 1}, {Integer.MAX_VALUE, 0},
            {0, Integer.MAX_VALUE}, {Integer.MIN_VALUE, 0}, {0, Integer.MIN_VALUE}};
        for (int[] at : outside) {
            String text = at[0] + ", " + at[1];
            Check.dueThrow("dot at " + text, noPixel, () -> x.dot(0, at[0], at[1], 1));
            Check.dueThrow("pixel at " + text, noPixel, () -> x.pixel(0, at[0], at[1]));
            Check.dueThrow("sweep at " + text, noPixel, () -> x.sweep(0, at[0], at[1], 1, 1, 1));
            Check.dueThrow("sweep of none at " + text, noPixel, () -> x.sweep(0, at[0], at[1], 0, 1, 1));
        }
        Check.due("nothing changed", x.raster(0, 2), 1);
        Check.due("nothing changed", x.pixel(0, 2, 1), 7);
    }

    private static void whats() {
        kinds("black", 0x000000FF, 1, 1, 1);
        kinds("white", -1, 1, 1, 1);
        kinds("gray", 0x707070FF, 1, 1, 0);
        kinds("red is not green", 0x717070FF, 1, 0, 0);
        kinds("green is not blue", 0x707170FF, 1, 0, 0);
        kinds("blue is not red", 0x707071FF, 1, 0, 0);
        kinds("clear black", 0x00000000, 0, 1, 0);
        kinds("black of alpha 254", 0x000000FE, 0, 1, 0);
        kinds("white of alpha 0", 0xFFFFFF00, 0, 1, 0);
        kinds("colour of alpha 1", 0x12345601, 0, 0, 0);
        RasterMint x = new RasterMint();
        x.make(0, 64, 64, 0);
        x.sweep(0, 0, 0, 4096, 255, 256);
        Check.due("4096 colours", x.raster(0, 2), 4096);
        x.sweep(0, 0, 0, 4096, 77, 1 << 20);
        Check.due("4096 colours of high bits", x.raster(0, 2), 4096);
        x.sweep(0, 0, 0, 4096, 77, 1 << 30);
        Check.due("4 colours", x.raster(0, 2), 4);
        x.sweep(0, 0, 0, 4096, 1, 1);
        Check.due("4096 colours of low bits", x.raster(0, 2), 4096);
        for (int what : new int[] {-1, 6, 7, Integer.MIN_VALUE, Integer.MAX_VALUE}) {
            Check.due("raster(0, " + what + ")", x.raster(0, what), -1);
        }
        for (int shelf : NO_SHELF) {
            Check.due("raster(" + shelf + ", 0)", x.raster(shelf, 0), -1);
        }
        for (int what = 0; what < 6; what++) {
            Check.due("raster of an empty shelf", x.raster(1, what), -1);
        }
    }

    /** The pixel stands alone, first and last among black ones. */
    private static void kinds(String name, int v, int opaque, int gray, int plain) {
        RasterMint x = new RasterMint();
        x.make(0, 1, 1, v);
        x.make(1, 3, 2, 255);
        x.dot(1, 0, 0, v);
        x.make(2, 3, 2, 255);
        x.dot(2, 2, 1, v);
        for (int shelf = 0; shelf < 3; shelf++) {
            Check.due(name + ": colours", x.raster(shelf, 2), shelf == 0 || v == 255 ? 1 : 2);
            Check.due(name + ": opaque", x.raster(shelf, 3), opaque);
            Check.due(name + ": gray", x.raster(shelf, 4), gray);
            Check.due(name + ": plain", x.raster(shelf, 5), plain);
        }
    }

    private static void copies() {
        RasterMint x = new RasterMint();
        x.make(0, 3, 2, 7);
        x.sweep(0, 0, 0, 9, 50, 1);
        x.make(1, 9, 9, 8);
        Check.due("copy", x.copy(0, 1), true);
        Check.due("width", x.raster(1, 0), 3);
        Check.due("height", x.raster(1, 1), 2);
        for (int i = 0; i < 6; i++) {
            Check.due("pixel", x.pixel(1, i % 3, i / 3), 50 + i);
        }
        x.dot(1, 0, 0, 1);
        Check.due("the other one stays", x.pixel(0, 0, 0), 50);
        x.dot(0, 1, 0, 2);
        Check.due("the copy stays", x.pixel(1, 1, 0), 51);
        Check.due("copy on itself", x.copy(0, 0), true);
        Check.due("it stays", x.pixel(0, 1, 0), 2);
        Check.due("copy of an empty one", x.copy(2, 1), true);
        Check.due("it is empty", x.raster(1, 0), -1);
        Check.due("copy of an empty one to an empty one", x.copy(2, 3), true);
        Check.due("it is empty", x.raster(3, 0), -1);
        for (int shelf : NO_SHELF) {
            Check.due("copy from " + shelf, x.copy(shelf, 0), false);
            Check.due("copy to " + shelf, x.copy(0, shelf), false);
        }
        Check.due("it stays", x.pixel(0, 1, 0), 2);
    }

    private static void sames() {
        RasterMint x = new RasterMint();
        Check.due("two empty ones", x.same(0, 1), true);
        Check.due("an empty one and itself", x.same(2, 2), true);
        x.make(0, 3, 2, 7);
        Check.due("one empty", x.same(0, 1), false);
        Check.due("one empty", x.same(1, 0), false);
        Check.due("itself", x.same(0, 0), true);
        x.make(1, 3, 2, 7);
        Check.due("alike", x.same(0, 1), true);
        x.dot(1, 2, 1, 8);
        Check.due("the last pixel", x.same(0, 1), false);
        x.dot(0, 2, 1, 8);
        Check.due("alike again", x.same(1, 0), true);
        x.dot(0, 0, 0, 8);
        Check.due("the first pixel", x.same(1, 0), false);
        x.make(0, 3, 2, 7);
        x.make(1, 2, 3, 7);
        Check.due("another shape", x.same(0, 1), false);
        x.make(1, 3, 3, 7);
        Check.due("a row more", x.same(0, 1), false);
        x.make(1, 6, 1, 7);
        Check.due("one row", x.same(0, 1), false);
        for (int shelf : NO_SHELF) {
            Check.due("same(" + shelf + ", 0)", x.same(shelf, 0), false);
            Check.due("same(0, " + shelf + ")", x.same(0, shelf), false);
            Check.due("same(" + shelf + ", " + shelf + ")", x.same(shelf, shelf), false);
        }
    }
}
