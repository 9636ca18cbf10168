/** Each sentence of family 0 that names a bound: the last that is taken, the first that is not. */
public final class EdgeQoiTest {
    private static final int QOI = 0;
    private static final int MAX = Integer.MAX_VALUE;
    private static final int MIN = Integer.MIN_VALUE;

    public static void main(String[] args) {
        signs();
        sides();
        wholeFields();
        pixels();
        channelsAndSpace();
        placesAtFirst();
        samePlaceTwice();
        smallSteps();
        largeSteps();
        runLengths();
        runsThatAreLeft();
        alphas();
        placesOfColours();
        chunksAndTheEnd();
        lastEight();
        cuts();
        Check.finish("EdgeQoiTest");
    }

    private static int rgba(int red, int green, int blue, int alpha) {
        return MadeFiles.rgba(red, green, blue, alpha);
    }

    private static Bytes head(int width, int height) {
        return MadeFiles.qoi(width, height, 3);
    }

    private static byte[] file(int width, int height, int... chunks) {
        return ended(head(width, height).add(chunks));
    }

    private static byte[] ended(Bytes file) {
        return file.times(7, 0).add(1).file();
    }

    private static int placeOf(int red, int green, int blue, int alpha) {
        return (3 * red + 5 * green + 7 * blue + 11 * alpha) % 64;
    }

    private static void refused(String name, byte[] file, int fault, int place) {
        Check.refused(name, QOI, file, fault, place);
    }

    /** "the signs qoif (four fields)": each is asked at its own place. */
    private static void signs() {
        byte[] file = file(1, 1, 192);
        for (int place = 0; place < 4; place++) {
            Check.eachValue("sign " + place, QOI, file, place, 2, place, "qoif".charAt(place));
        }
        refused("the first wrong one", Bytes.of("qXXX"), 2, 1);
        refused("a wrong one ahead of the end", Bytes.of("qoX"), 2, 2);
        refused("the end behind right ones", Bytes.of("qoi"), 1, 3);
    }

    /** "WIDTH, HEIGHT (4 bytes each, from 1 on; as numbers without sign)". */
    private static void sides() {
        refused("width 0", file(0, 1, 192), 2, 4);
        refused("height 0", file(1, 0, 192), 2, 8);
        refused("both 0", file(0, 0, 192), 2, 4);
        Check.taken("1 x 1", QOI, file(1, 1, 192), 1, 255);
        for (int side : new int[] {4097, MAX, MIN, -1, -4096, 1 << 16, 1 << 24}) {
            refused("width " + side, head(side, 1).file(), 3, 8);
            refused("height " + side, head(1, side).file(), 3, 8);
            refused("both " + side, head(side, side).file(), 3, 8);
            refused("width " + side + ", height 0", head(side, 0).file(), 2, 8);
            refused("width 0, height " + side, head(0, side).file(), 2, 4);
        }
    }

    /** "each whole (1 ahead of 2)": a field that is cut is not asked. */
    private static void wholeFields() {
        for (int n = 4; n < 8; n++) {
            refused("width cut to " + n, new Bytes().text("qoif").times(n - 4, 0).file(), 1, n);
        }
        refused("width 0 and the end", new Bytes().text("qoif").high4(0).file(), 2, 4);
        for (int n = 8; n < 12; n++) {
            refused("height cut to " + n, new Bytes().text("qoif").high4(-1).times(n - 8, 0).file(), 1, n);
        }
        refused("height 0 and the end", new Bytes().text("qoif").high4(-1, 0).file(), 2, 8);
        refused("too many pixels and the end", new Bytes().text("qoif").high4(4097, 1).file(), 3, 8);
        refused("just so many and the end", new Bytes().text("qoif").high4(4096, 1).file(), 1, 12);
    }

    private static Bytes runs(int width, int height) {
        Bytes out = head(width, height).add(254, 1, 2, 3);
        for (int left = width * height - 1; left > 0; left -= Math.min(left, 62)) {
            out.add(191 + Math.min(left, 62));
        }
        return out;
    }

    /** "3 more than 4096 PIXELS (at the HEIGHT's first byte)". */
    private static void pixels() {
        for (int[] size : new int[][] {{4096, 1}, {1, 4096}, {64, 64}, {2, 2048}, {4095, 1}, {63, 65}}) {
            Check.sized(size[0] + " x " + size[1], QOI, ended(runs(size[0], size[1])), size[0], size[1], 0x010203FF,
                0x010203FF);
        }
        for (int[] size : new int[][] {{4097, 1}, {1, 4097}, {17, 241}, {64, 65}, {65, 64}, {4096, 2}, {2, 2049}}) {
            refused(size[0] + " x " + size[1], ended(runs(size[0], size[1])), 3, 8);
            refused(size[0] + " x " + size[1] + ", channels 9", Bytes.with(head(size[0], size[1]).file(), 12, 9), 3, 8);
        }
        for (int[] size : new int[][] {{1 << 16, 1 << 16}, {1 << 31, 2}, {1 << 30, 4}, {-1, -1}, {641, 6700417}}) {
            refused("a product that goes round: " + size[0] + " x " + size[1], head(size[0], size[1]).file(), 3, 8);
        }
    }

    /** "channels 3 or 4; space 0 or 1". */
    private static void channelsAndSpace() {
        byte[] file = file(1, 1, 192);
        Check.eachValue("channels", QOI, file, 12, 2, 12, 3, 4);
        Check.eachValue("space", QOI, file, 13, 2, 13, 0, 1);
        refused("channels ahead of space", Bytes.with(file, 12, 2, 2), 2, 12);
        Check.taken("channels 3 keep an alpha", QOI, file(1, 1, 255, 1, 2, 3, 4), 1, 0x01020304);
        Check.taken("channels 4 need none", QOI, Bytes.with(file, 12, 4), 1, 255);
    }

    /** "64 PLACES have pixels, at first 0, 0, 0, 0 each". */
    private static void placesAtFirst() {
        for (int b = 0; b < 64; b++) {
            Check.taken("place " + b, QOI, file(1, 1, b), 1, 0);
            Check.taken("place " + b + ", then P", QOI, file(2, 1, b, 192), 2, 0, 0);
            Check.taken("alpha of place " + b, QOI, file(2, 1, b, 254, 1, 2, 3), 2, 0, 0x01020300);
        }
        Check.taken("64 is no place", QOI, file(1, 1, 64), 1, 0xFEFEFEFF);
    }

    /** "(fault 4 if the chunk just before was of this b, too)". */
    private static void samePlaceTwice() {
        for (int b = 0; b < 64; b++) {
            refused("place " + b + " twice", file(2, 1, b, b), 4, 15);
            refused("place " + b + " twice, cut", head(2, 1).add(b, b).file(), 4, 15);
            refused("place " + b + " twice, later", file(4, 1, 192, b, b, 192), 4, 16);
            Check.taken("place " + b + ", another one", QOI, file(2, 1, b, b ^ 1), 2, 0, 0);
            refused("place " + b + ", another one twice", file(3, 1, b, b ^ 1, b ^ 1), 4, 16);
            Check.taken("place " + b + " with one between", QOI, file(3, 1, b, b ^ 1, b), 3, 0, 0, 0);
            Check.taken("place " + b + " with a run between", QOI, file(3, 1, b, 192, b), 3, 0, 0, 0);
        }
        Check.taken("the byte before is no chunk: 254", QOI, file(2, 1, 254, 9, 9, 5, 5), 2, 0x090905FF, 0);
        Check.taken("the byte before is no chunk: 255", QOI, file(2, 1, 255, 9, 9, 9, 5, 5), 2, 0x09090905, 0);
        Check.taken("the byte before is no chunk: 128", QOI, file(2, 1, 160, 5, 5), 2, 0xF800FDFF, 0);
        Check.taken("the byte before is the space", QOI, file(1, 1, 0), 1, 0);
        Check.taken("64 twice", QOI, file(2, 1, 64, 64), 2, 0xFEFEFEFF, 0xFCFCFCFF);
        Check.taken("192 twice", QOI, file(2, 1, 192, 192), 2, 255, 255);
    }

    /** "64 .. 127: P, its red more by (b >> 4 & 3) - 2, .. each round at 256." */
    private static void smallSteps() {
        for (int from : new int[] {0, 1, 2, 128, 253, 254, 255}) {
            for (int b = 64; b < 128; b++) {
                int red = from + (b - 64) / 16 - 2;
                int green = from + b / 4 % 4 - 2;
                int blue = from + b % 4 - 2;
                Check.taken(b + " from " + from, QOI, file(2, 1, 255, from, from, from, 77, b), 2,
                    rgba(from, from, from, 77), rgba(red, green, blue, 77));
            }
        }
    }

    /** "128 .. 191: a byte c follows; with d = (b & 63) - 32: green more by d, .. round." */
    private static void largeSteps() {
        for (int from : new int[] {0, 39, 40, 128, 217, 218, 255}) {
            for (int b : new int[] {128, 129, 159, 160, 161, 190, 191}) {
                for (int c : new int[] {0, 1, 15, 16, 0x77, 0x78, 0x87, 0x88, 0xF0, 0xFF}) {
                    int d = b - 160;
                    Check.taken(b + ", " + c + " from " + from, QOI, file(2, 1, 255, from, from, from, 3, b, c), 2,
                        rgba(from, from, from, 3), rgba(from + d + c / 16 - 8, from + d, from + d + c % 16 - 8, 3));
                }
            }
        }
        refused("128 without its byte", head(1, 1).add(128).file(), 1, 15);
        refused("191 without its byte", head(1, 1).add(191).file(), 1, 15);
    }

    /** "192 .. 253: P (b & 63) + 1 times": 1 up to 62. */
    private static void runLengths() {
        for (int b = 192; b < 254; b++) {
            int times = b - 191;
            Check.sized("run " + b, QOI, file(times, 1, b), times, 1, 255, 255);
            Check.sized("run " + b + " and one more", QOI, file(times + 1, 1, b, 254, 1, 2, 3), times + 1, 1, 255,
                0x010203FF);
        }
        Check.taken("254 is no run", QOI, file(1, 1, 254, 1, 2, 3), 1, 0x010203FF);
        Check.taken("255 is no run", QOI, file(1, 1, 255, 1, 2, 3, 4), 1, 0x01020304);
    }

    /** "(fault 4 if so many pixels are not left)": asked "ahead of the bytes behind its first one". */
    private static void runsThatAreLeft() {
        for (int b = 193; b < 254; b++) {
            int times = b - 191;
            refused("run " + b + " of one less", file(times - 1, 1, b), 4, 14);
            refused("run " + b + " of one less, cut", head(times - 1, 1).add(b).file(), 4, 14);
            refused("run " + b + " behind a pixel", file(times, 1, 254, 1, 2, 3, b), 4, 18);
            refused("run " + b + " over rows", file(1, times - 1, b), 4, 14);
        }
        refused("two runs of one too many", file(62, 1, 252, 193), 4, 15);
        Check.sized("two runs just so many", QOI, file(62, 1, 252, 192), 62, 1, 255, 255);
        Check.sized("a run over all rows", QOI, file(2, 31, 253), 2, 31, 255, 255);
    }

    /** "254: .. alpha is P's. 255: red, green, blue, alpha follow." */
    private static void alphas() {
        for (int alpha : new int[] {0, 1, 127, 128, 254, 255}) {
            Check.taken("alpha " + alpha, QOI, file(3, 1, 255, 1, 2, 3, alpha, 254, 4, 5, 6, 127), 3,
                rgba(1, 2, 3, alpha), rgba(4, 5, 6, alpha), rgba(5, 6, 7, alpha));
        }
        for (int n = 0; n < 3; n++) {
            refused("254 with " + n, head(1, 1).add(254).times(n, 9).file(), 1, 15 + n);
        }
        for (int n = 0; n < 4; n++) {
            refused("255 with " + n, head(1, 1).add(255).times(n, 9).file(), 1, 15 + n);
        }
    }

    /** "Each pixel then stands at PLACE (3 * red + 5 * green + 7 * blue + 11 * alpha) % 64." */
    private static void placesOfColours() {
        int[] some = {0, 1, 7, 63, 64, 128, 200, 254, 255};
        for (int red : some) {
            for (int green : some) {
                int blue = some[(red + green) % some.length];
                int alpha = some[(red + 2 * green + 1) % some.length];
                int place = placeOf(red, green, blue, alpha);
                int other = place == placeOf(9, 9, 9, 9) ? 8 : 9;
                byte[] file = file(3, 1, 255, red, green, blue, alpha, 255, other, other, other, other, place);
                Check.taken("place of " + red + ", " + green + ", " + blue + ", " + alpha, QOI, file, 3,
                    rgba(red, green, blue, alpha), rgba(other, other, other, other), rgba(red, green, blue, alpha));
            }
        }
        Check.taken("black does not stand at first", QOI, file(1, 1, 53), 1, 0);
        Check.taken("black stands behind a run", QOI, file(3, 1, 192, 127, 53), 3, 255, 0x010101FF, 255);
        int place = placeOf(10, 20, 30, 255);
        Check.taken("the later one stands", QOI, file(3, 1, 254, 10, 20, 30, 254, 74, 20, 30, place), 3, 0x0A141EFF,
            0x4A141EFF, 0x4A141EFF);
    }

    /** "CHUNKS till all pixels are there": then the eight fields, whatever a byte could stand for. */
    private static void chunksAndTheEnd() {
        refused("a chunk too many", file(1, 1, 192, 192), 2, 15);
        refused("a place too many", file(1, 1, 192, 0), 2, 22);
        refused("a pixel too few", file(2, 1, 192), 2, 22);
        refused("ten pixels, the last eight bytes are chunks", file(10, 1, 193), 4, 16);
        Check.told("chunks of all kinds", QOI, file(12, 1, 192, 5, 64, 160, 8, 254, 1, 2, 3, 255, 1, 2, 3, 4, 197), 3, 0,
            7);
        Check.told("one chunk of many", QOI, file(62, 1, 253), 3, 0, 1);
        Check.told("one chunk of one", QOI, file(1, 1, 192), 3, 0, 1);
    }

    /** "seven bytes 0 and one 1 (eight fields)", "5 a byte behind the file's end (at it)". */
    private static void lastEight() {
        byte[] file = file(1, 1, 192);
        for (int k = 0; k < 8; k++) {
            Check.eachValue("the end's byte " + k, QOI, file, 15 + k, 2, 15 + k, k / 7);
        }
        for (int b : new int[] {0, 1, 192, 255}) {
            refused("one byte behind", new Bytes().add(file).add(b).file(), 5, 23);
            refused("many bytes behind", new Bytes().add(file).times(300, b).file(), 5, 23);
        }
        refused("a wrong one ahead of a byte behind", new Bytes().add(Bytes.with(file, 22, 0)).add(1).file(), 2, 22);
        refused("another file behind", new Bytes().add(file).add(file).file(), 5, 23);
    }

    /** "1 a byte is wanted where the end is (place n)". */
    private static void cuts() {
        Check.refusedIfCut("a run", QOI, file(3, 2, 197));
        Check.refusedIfCut("all kinds", QOI, file(9, 1, 5, 64, 160, 8, 254, 1, 2, 3, 255, 1, 2, 3, 4, 195));
    }
}
