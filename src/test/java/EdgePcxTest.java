import java.util.Arrays;

/** Each sentence of family 4 that names a bound: the last that is taken, the first that is not. */
public final class EdgePcxTest {
    private static final int PCX = 4;
    private static final int BLACK = 0x000000FF;
    private static final int WHITE = 0xFFFFFFFF;

    public static void main(String[] args) {
        firstFields();
        bitsAndPlanes();
        sides();
        wholeFields();
        pixels();
        anyFields();
        steps();
        longSteps();
        runs();
        runsAndLines();
        runsOfNoByte();
        table();
        behind();
        sixteenColours();
        bitsOfPixels();
        planeByPlane();
        cuts();
        facts();
        Check.finish("EdgePcxTest");
    }

    private static Bytes head(int version, int bits, int planes, int step, int width, int height) {
        return MadeFiles.pcx(version, bits, planes, step, width, height);
    }

    private static Bytes laid(int version, int bits, int planes, int step, int... sides) {
        return MadeFiles.pcxLaid(version, bits, planes, step, sides);
    }

    private static int sixteenth(int i) {
        return MadeFiles.pcxColour(i);
    }

    private static Bytes tabled(Bytes out) {
        return MadeFiles.pcxTabled(out);
    }

    private static int entry(int i) {
        return MadeFiles.pcxEntry(i);
    }

    private static void taken(String name, Bytes file, int width, int... pixels) {
        Check.taken(name, PCX, file.file(), width, pixels);
    }

    private static void refused(String name, Bytes file, int fault, int place) {
        Check.refused(name, PCX, file.file(), fault, place);
    }

    /** "0: 10; 1: 0, 2, 3, 4 or 5; 2: 1; 3: BITS 1, 2, 4, 8". */
    private static void firstFields() {
        byte[] file = head(5, 1, 1, 2, 1, 1).add(0, 0).file();
        Check.eachValue("place 0", PCX, file, 0, 2, 0, 10);
        Check.eachValue("place 1", PCX, file, 1, 2, 1, 0, 2, 3, 4, 5);
        Check.eachValue("place 2", PCX, file, 2, 2, 2, 1);
        for (int bits = 0; bits < 256; bits++) {
            if (bits == 1 || bits == 2 || bits == 4) {
                Check.sized("bits " + bits, PCX, Bytes.with(file, 3, bits), 1, 1, bits == 1 ? BLACK : sixteenth(0),
                    bits == 1 ? BLACK : sixteenth(0));
            } else {
                // Of 8 bits the table is wanted behind the line.
                Check.refused("bits " + bits, PCX, Bytes.with(file, 3, bits), bits == 8 ? 1 : 2, bits == 8 ? 130 : 3);
            }
        }
    }

    /** "65: PLANES: of BITS 1 1 .. 4, of 2, 4 1, of 8 1 or 3, these with a 5 at place 1". */
    private static void bitsAndPlanes() {
        for (int version : new int[] {0, 2, 3, 4, 5}) {
            for (int bits : new int[] {1, 2, 4, 8}) {
                for (int planes = 0; planes < 256; planes++) {
                    boolean can = bits == 1 && planes >= 1 && planes <= 4 || (bits == 2 || bits == 4) && planes == 1
                        || bits == 8 && version == 5 && (planes == 1 || planes == 3);
                    String name = "version " + version + ", bits " + bits + ", planes " + planes;
                    Bytes file = head(version, bits, planes, 2, 1, 1);
                    if (!can) {
                        refused(name, file, 2, 65);
                        continue;
                    }
                    file.times(2 * planes, 0);
                    Bytes whole = bits == 8 && planes == 1 ? tabled(file) : file;
                    int v = bits == 8 ? planes == 1 ? entry(0) : BLACK : bits == 1 && planes == 1 ? BLACK : sixteenth(0);
                    taken(name, whole, 1, v);
                }
            }
        }
        refused("bits 8 without a 5, cut ahead of planes", new Bytes().add(Arrays.copyOf(head(0, 8, 1, 2, 1, 1).file(),
            65)), 1, 65);
    }

    /** "RIGHT not below LEFT, BOTTOM not below TOP: WIDTH is RIGHT - LEFT + 1, HEIGHT likewise". */
    private static void sides() {
        for (int side : new int[] {0, 1, 255, 256, 32767, 32768, 65534, 65535}) {
            taken("from " + side + " to itself", laid(5, 1, 1, 2, side, side, side, side).add(0, 0), 1, BLACK);
            if (side > 0) {
                refused("right of one less than " + side, laid(5, 1, 1, 2, side, 0, side - 1, 0).add(0, 0), 2, 8);
                refused("bottom of one less than " + side, laid(5, 1, 1, 2, 0, side, 0, side - 1).add(0, 0), 2, 10);
                refused("right 0, left " + side, laid(5, 1, 1, 2, side, 0, 0, 0).add(0, 0), 2, 8);
                refused("bottom 0, top " + side, laid(5, 1, 1, 2, 0, side, 0, 0).add(0, 0), 2, 10);
                taken("two columns to " + side, laid(5, 1, 1, 2, side - 1, 0, side, 0).add(0x40, 0), 2, BLACK, WHITE);
                taken("two rows to " + side, laid(5, 1, 1, 2, 0, side - 1, 0, side).add(0, 0, 128, 0), 1, BLACK, WHITE);
            }
        }
        refused("right ahead of bottom", laid(5, 1, 1, 2, 1, 1, 0, 0).add(0, 0), 2, 8);
        refused("bottom ahead of too many", laid(5, 1, 1, 2, 0, 1, 65535, 0).add(0, 0), 2, 10);
    }

    /** "each whole (1 ahead of 2)". */
    private static void wholeFields() {
        byte[] right = laid(5, 1, 1, 2, 1, 0, 0, 0).file();
        byte[] bottom = laid(5, 1, 1, 2, 0, 1, 0, 0).file();
        byte[] large = laid(5, 1, 1, 2, 0, 0, 4095, 1).file();
        byte[] step = head(5, 1, 1, 3, 1, 1).file();
        Check.refused("half a right", PCX, Arrays.copyOf(right, 9), 1, 9);
        Check.refused("a right", PCX, Arrays.copyOf(right, 10), 2, 8);
        Check.refused("half a bottom", PCX, Arrays.copyOf(bottom, 11), 1, 11);
        Check.refused("a bottom", PCX, Arrays.copyOf(bottom, 12), 2, 10);
        Check.refused("half a bottom of too many", PCX, Arrays.copyOf(large, 11), 1, 11);
        Check.refused("a bottom of too many", PCX, Arrays.copyOf(large, 12), 3, 10);
        Check.refused("half a step", PCX, Arrays.copyOf(step, 67), 1, 67);
        Check.refused("a step", PCX, Arrays.copyOf(step, 68), 2, 66);
    }

    private static Bytes whites(int width, int height) {
        int step = (width + 15) / 16 * 2;
        Bytes out = head(5, 1, 1, step, width, height);
        for (int y = 0; y < height; y++) {
            for (int left = step; left > 0; left -= Math.min(left, 63)) {
                out.add(192 + Math.min(left, 63), 255);
            }
        }
        return out;
    }

    /** "(above 4096 PIXELS: 3 at 10)". */
    private static void pixels() {
        for (int[] size : new int[][] {{4096, 1}, {1, 4096}, {64, 64}, {4095, 1}, {63, 65}, {2, 2048}}) {
            Check.sized(size[0] + " x " + size[1], PCX, whites(size[0], size[1]).file(), size[0], size[1], WHITE, WHITE);
        }
        for (int[] size : new int[][] {{4097, 1}, {1, 4097}, {17, 241}, {64, 65}, {65, 64}, {4096, 2}, {2, 2049}}) {
            refused(size[0] + " x " + size[1], whites(size[0], size[1]), 3, 10);
        }
        for (int[] size : new int[][] {{65535, 65535}, {65535, 0}, {0, 65535}, {32767, 32767}, {4096, 0}, {0, 4096}}) {
            refused("right " + size[0] + ", bottom " + size[1], laid(5, 1, 9, 9, 0, 0, size[0], size[1]), 3, 10);
        }
    }

    /** "12, 14 (2 each): any; .. 64: any; .. 68: 60 bytes, any." */
    private static void anyFields() {
        byte[] file = head(5, 1, 1, 2, 1, 1).add(128, 0).file();
        for (int place = 12; place < 128; place++) {
            if (place < 65 || place > 67) {
                for (int v : new int[] {0, 1, 255}) {
                    Check.taken("place " + place + " of " + v, PCX, Bytes.with(file, place, v), 1, WHITE);
                }
            }
        }
    }

    /** "66 (2): STEP, even, at least (WIDTH * BITS + 7) / 8". */
    private static void steps() {
        int[][] kinds = {{1, 1}, {1, 2}, {1, 4}, {2, 1}, {4, 1}, {8, 3}};
        for (int[] kind : kinds) {
            for (int width = 1; width <= 40; width++) {
                int least = (width * kind[0] + 7) / 8;
                int even = least + least % 2;
                String name = "bits " + kind[0] + ", planes " + kind[1] + ", width " + width + ", step ";
                for (int step = Math.max(0, even - 3); step <= even + 4; step++) {
                    Bytes file = head(5, kind[0], kind[1], step, width, 1).times(kind[1] * step, 0);
                    if (step % 2 == 1 || step < least) {
                        refused(name + step, file, 2, 66);
                    } else {
                        int v = kind[0] == 1 && kind[1] == 1 || kind[0] == 8 ? BLACK : sixteenth(0);
                        Check.sized(name + step, PCX, file.file(), width, 1, v, v);
                    }
                }
            }
        }
        refused("step 0", head(5, 1, 1, 0, 1, 1), 2, 66);
        refused("step 65535", head(5, 1, 1, 65535, 1, 1), 2, 66);
        refused("planes ahead of step", head(5, 1, 5, 1, 1, 1), 2, 65);
    }

    private static void longSteps() {
        Bytes file = head(5, 1, 1, 65534, 1, 1).add(193, 255);
        for (int left = 65533; left > 0; left -= Math.min(left, 63)) {
            file.add(192 + Math.min(left, 63), 0);
        }
        byte[] whole = file.file();
        Check.taken("step 65534", PCX, whole, 1, WHITE);
        Check.refused("step 65534, a byte behind", PCX, new Bytes().add(whole).add(0).file(), 5, whole.length);
        Check.refused("step 65534, cut", PCX, Arrays.copyOf(whole, whole.length - 1), 1, whole.length - 1);
        Check.told("step 65534", PCX, whole, 1, 1, 65534);
    }

    /** "a byte below 192 is itself, another one b stands for b - 192 bytes like the one that follows". */
    private static void runs() {
        for (int b = 0; b < 192; b++) {
            taken("itself: " + b, tabled(head(5, 8, 1, 2, 1, 1).add(b, 0)), 1, entry(b));
        }
        for (int b = 193; b < 256; b++) {
            int many = b - 192;
            int step = many + many % 2;
            Bytes file = head(5, 8, 1, step, many, 1).add(b, b).times(step - many, 0);
            Check.sized("a run of " + many, PCX, tabled(file).file(), many, 1, entry(b), entry(b));
            Bytes one = head(5, 8, 1, 2, 1, 1).add(193, b, 0);
            taken("one of " + b, tabled(one), 1, entry(b));
            refused("a run of " + many + ", cut", head(5, 8, 1, step, many, 1).add(b), 1, 129);
        }
    }

    /** "none goes over its line's end": asked "ahead of the bytes behind its first one". */
    private static void runsAndLines() {
        for (int step = 2; step <= 62; step += 2) {
            Bytes just = head(5, 1, 1, step, 1, 2).add(192 + step, 255).add(192 + step, 0);
            taken("runs of lines of " + step, just, 1, WHITE, BLACK);
            refused("one more than a line of " + step, head(5, 1, 1, step, 1, 2).add(193 + step, 255).add(0, 0), 4, 128);
            refused("one more, cut", head(5, 1, 1, step, 1, 2).add(193 + step), 4, 128);
            refused("one more, later", head(5, 1, 1, step, 1, 2).add(0).add(192 + step, 0), 4, 129);
            refused("one more on the last line", head(5, 1, 1, step, 1, 2).add(192 + step, 255).add(193 + step, 0), 4, 130);
            refused("a line wanted", head(5, 1, 1, step, 1, 2).add(192 + step, 255), 1, 130);
        }
        taken("over planes", head(5, 8, 3, 2, 1, 1).add(198, 7), 1, 0x070707FF);
        refused("over planes and one more", head(5, 8, 3, 2, 1, 1).add(199, 7), 4, 128);
        taken("over a part of planes", head(5, 8, 3, 2, 2, 1).add(1, 195, 2, 194, 3), 2, 0x010203FF, 0x020203FF);
        refused("over a line's end behind planes", head(5, 8, 3, 2, 2, 2).add(197, 1, 194, 2), 4, 130);
    }

    /** "none is of no byte (4)". */
    private static void runsOfNoByte() {
        refused("at once", head(5, 1, 1, 2, 1, 1).add(192, 0, 0, 0), 4, 128);
        refused("at once, cut", head(5, 1, 1, 2, 1, 1).add(192), 4, 128);
        refused("later", head(5, 1, 1, 2, 1, 1).add(0, 192, 0, 0), 4, 129);
        taken("191 is itself", head(5, 1, 1, 2, 1, 1).add(191, 0), 1, WHITE);
        taken("193 is one", head(5, 1, 1, 2, 1, 1).add(193, 192, 0), 1, WHITE);
        refused("192 behind a line's end", head(5, 1, 1, 2, 1, 1).add(0, 0, 192), 5, 130);
    }

    /** "BITS 8 with one plane: then a 12 and 256 colours." */
    private static void table() {
        byte[] file = tabled(head(5, 8, 1, 2, 2, 1).add(0, 193, 255)).file();
        Check.taken("the first and the last colour", PCX, file, 2, entry(0), entry(255));
        Check.eachValue("the 12", PCX, file, 131, 2, 131, 12);
        for (int n = 131; n < file.length; n++) {
            Check.refused("the table cut to " + n, PCX, Arrays.copyOf(file, n), 1, n);
        }
        refused("no 12 ahead of the end", head(5, 8, 1, 2, 1, 1).add(0, 0, 11), 2, 130);
        for (int i = 0; i < 256; i++) {
            taken("colour " + i, tabled(head(5, 8, 1, 2, 1, 1).add(193, i, 0)), 1, entry(i));
        }
    }

    /** "Then the end.", "5 a byte behind the file's end (at it)". */
    private static void behind() {
        byte[] lines = head(5, 1, 1, 2, 1, 1).add(0, 0).file();
        byte[] three = head(5, 8, 3, 2, 1, 1).add(198, 0).file();
        byte[] table = tabled(head(5, 8, 1, 2, 1, 1).add(0, 0)).file();
        for (int b : new int[] {0, 12, 192, 193, 255}) {
            refused("behind lines: " + b, new Bytes().add(lines).add(b), 5, 130);
            refused("behind three planes: " + b, new Bytes().add(three).add(b), 5, 130);
            refused("behind a table: " + b, new Bytes().add(table).add(b), 5, 899);
        }
        refused("a table where none is", tabled(new Bytes().add(three)), 5, 130);
    }

    /** "16: sixteen colours": each by the pixels that can ask for it. */
    private static void sixteenColours() {
        for (int i = 0; i < 16; i++) {
            taken("4 bits, " + i, head(5, 4, 1, 2, 1, 1).add(i < 12 ? i << 4 : 193).add(i < 12 ? 0 : i << 4)
                .times(i < 12 ? 0 : 1, 0), 1, sixteenth(i));
            taken("4 planes, " + i, head(5, 1, 4, 2, 1, 1).add((i & 1) << 7, 0, (i & 2) << 6, 0, (i & 4) << 5, 0,
                (i & 8) << 4, 0), 1, sixteenth(i));
            if (i < 8) {
                taken("3 planes, " + i, head(5, 1, 3, 2, 1, 1).add((i & 1) << 7, 0, (i & 2) << 6, 0, (i & 4) << 5, 0), 1,
                    sixteenth(i));
            }
            if (i < 4) {
                taken("2 planes, " + i, head(5, 1, 2, 2, 1, 1).add((i & 1) << 7, 0, (i & 2) << 6, 0), 1, sixteenth(i));
                taken("2 bits, " + i, head(5, 2, 1, 2, 4, 1).add(i << 4, 0), 4, sixteenth(0), sixteenth(i), sixteenth(0),
                    sixteenth(0));
            }
        }
        taken("1 bit, 1 plane", head(5, 1, 1, 2, 2, 1).add(0x40, 0), 2, BLACK, WHITE);
    }

    /** "A pixel has BITS bits of each plane, the highest first": the last column, what is behind it is not asked. */
    private static void bitsOfPixels() {
        for (int width = 1; width <= 16; width++) {
            int[] due = new int[width];
            Arrays.fill(due, BLACK);
            int behind = 0xFFFF >> width;
            byte[] file = head(5, 1, 1, 2, width, 1).add(193, behind >> 8, 193, behind).file();
            Check.taken("behind column " + width, PCX, file, width, due);
            due[width - 1] = WHITE;
            int last = 0x8000 >> width - 1;
            file = head(5, 1, 1, 2, width, 1).add(193, last >> 8, 193, last).file();
            Check.taken("column " + width, PCX, file, width, due);
        }
        taken("4 bits, odd", head(5, 4, 1, 2, 3, 1).add(0x12, 0x3F), 3, sixteenth(1), sixteenth(2), sixteenth(3));
        taken("2 bits, five", head(5, 2, 1, 2, 5, 1).add(0x1B, 0xBF), 5, sixteenth(0), sixteenth(1), sixteenth(2),
            sixteenth(3), sixteenth(2));
    }

    private static void planeByPlane() {
        taken("3 planes of 8 bits", head(5, 8, 3, 2, 2, 2).add(1, 2, 3, 4, 5, 6, 7, 8, 9, 10, 11, 12), 2, 0x010305FF,
            0x020406FF, 0x07090BFF, 0x080A0CFF);
        taken("a step of four", head(5, 8, 3, 4, 2, 1).add(1, 2, 99, 99, 3, 4, 99, 99, 5, 6, 99, 99), 2, 0x010305FF,
            0x020406FF);
    }

    /** "1 a byte is wanted where the end is (place n)". */
    private static void cuts() {
        Check.refusedIfCut("1 bit", PCX, head(0, 1, 2, 2, 9, 2).add(1, 2, 193, 255, 4, 196, 0).file());
        Check.refusedIfCut("4 bits", PCX, head(3, 4, 1, 2, 3, 2).add(1, 2, 194, 4).file());
    }

    /** "PCX BITS, PLANES, STEP". */
    private static void facts() {
        for (int planes = 1; planes <= 4; planes++) {
            Check.told(planes + " planes", PCX, head(4, 1, planes, 6, 1, 1).times(6 * planes, 0).file(), 1, planes, 6);
        }
        Check.told("2 bits", PCX, head(4, 2, 1, 2, 1, 1).add(0, 0).file(), 2, 1, 2);
        Check.told("8 bits", PCX, head(5, 8, 3, 2, 1, 1).add(198, 0).file(), 8, 3, 2);
    }
}
