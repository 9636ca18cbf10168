import java.util.Arrays;

/** Promises 8 and 16: each form, on rasters that it holds and on such as it does not. */
public final class WriteTest {
    private static final int B = 0x000000FF;
    private static final int W = 0xFFFFFFFF;
    private static final int R = 0x010203FF;
    private static final int G = 0xC8C0BFFF;

    public static void main(String[] args) {
        holding();
        refusals();
        qoi();
        pnm();
        sizesInTexts();
        bmp();
        tga();
        pcx();
        longRuns();
        largest();
        Check.finish("WriteTest");
    }

    private static RasterMint shelved(int width, int... pixels) {
        RasterMint x = new RasterMint();
        x.make(0, width, pixels.length / width, 0);
        for (int i = 0; i < pixels.length; i++) {
            x.dot(0, i % width, i / width, pixels[i]);
        }
        return x;
    }

    private static void written(int form, byte[] due, int width, int... pixels) {
        RasterMint x = shelved(width, pixels);
        String name = "form " + form + " of " + Arrays.toString(pixels);
        Check.due(name + ": holds", x.holds(0, form), true);
        Check.due(name + ": how many", x.write(0, form), due.length);
        byte[] got = Check.output(x);
        if (!Arrays.equals(got, due)) {
            Check.fail(name + ": is " + Arrays.toString(got) + ", due is " + Arrays.toString(due));
        }
        for (int i = 0; i < pixels.length; i++) {
            Check.due(name + ": the raster stays", x.pixel(0, i % width, i / width), pixels[i]);
        }
    }

    private static int[] spread(int many, int v, int step) {
        int[] all = new int[many];
        for (int k = 0; k < many; k++) {
            all[k] = v + k * step;
        }
        return all;
    }

    private static void holding() {
        String plain = "0 1 2 3 4 5 6 7 8 9 10 11 12 13 14 15 16 17";
        String gray = "0 2 3 5 6 7 8 9 10 11 12 13 14 15 16 17";
        String few = "0 3 6 7 8 9 10 11 14 15 16 17";
        String many = "0 3 6 7 10 11 16";
        String clearFew = "0 10 11 14 15";
        String clearMany = "0 10 11";
        kind("plain", plain, B, W, W, B);
        kind("one white", plain, W);
        kind("gray", gray, B, 0x808080FF, W, B);
        kind("all grays", gray, spread(256, B, 0x01010100));
        kind("a colour", few, B, R, W, B);
        kind("256 colours", few, spread(256, B, 0x100));
        kind("256 colours, some again", few, spread(512, B, 0x01000000));
        kind("257 colours", many, spread(257, B, 0x100));
        kind("1000 colours", many, spread(1000, B, 0x100));
        kind("a clear black", clearFew, B, 0);
        kind("a clear white", clearFew, W, 0xFFFFFFFE, W);
        kind("a clear colour", clearFew, R, 0x01020304);
        kind("256 pixels of unlike alphas", clearFew, spread(256, 0, 1));
        kind("257 clear ones", clearMany, spread(257, 0, 0x100));
        kind("256 colours and a clear one", clearMany, spread(257, B, 0xFF));
    }

    private static void kind(String name, String forms, int... pixels) {
        RasterMint x = shelved(pixels.length, pixels.length > 400 ? new int[pixels.length] : pixels);
        if (pixels.length > 400) {
            x.sweep(0, 0, 0, pixels.length, pixels[0], pixels[1] - pixels[0]);
        }
        for (int form = 0; form < 18; form++) {
            boolean held = (" " + forms + " ").contains(" " + form + " ");
            Check.due(name + ": holds(0, " + form + ")", x.holds(0, form), held);
            x.make(1, 1, 1, B);
            x.write(1, 5);
            int n = x.write(0, form);
            Check.due(name + ": write(0, " + form + ")", n > 0, held);
            if (!held) {
                Check.due(name + ": write(0, " + form + ")", n, -1);
                Check.due(name + ": the output stays", x.bytes(0), 0x50350A3120310A32L);
                Check.due(name + ": the output stays", x.byteAt(12), -1);
            }
        }
    }

    private static void refusals() {
        RasterMint x = shelved(1, B);
        x.write(0, 5);
        for (int form : new int[] {-1, 18, 19, 31, 32, Integer.MIN_VALUE, Integer.MAX_VALUE}) {
            Check.due("write(0, " + form + ")", x.write(0, form), -2);
            Check.due("holds(0, " + form + ")", x.holds(0, form), false);
        }
        for (int shelf : new int[] {-1, 1, 2, 3, 4, Integer.MIN_VALUE, Integer.MAX_VALUE}) {
            Check.due("write(" + shelf + ", 0)", x.write(shelf, 0), -2);
            Check.due("write(" + shelf + ", 99)", x.write(shelf, 99), -2);
            Check.due("holds(" + shelf + ", 0)", x.holds(shelf, 0), false);
        }
        Check.due("the output stays", x.bytes(0), 0x50350A3120310A32L);
        x.make(2, 1, 1, 0);
        Check.due("not held and no such form", x.write(2, 18), -2);
        Check.due("not held", x.write(2, 1), -1);
        Check.due("the output stays", x.bytes(0), 0x50350A3120310A32L);
    }

    private static byte[] qoiOf(int width, int height, int channels, int... chunks) {
        return new Bytes().text("qoif").high4(width, height).add(channels, 0).add(chunks).times(7, 0).add(1).file();
    }

    private static void qoi() {
        written(0, qoiOf(1, 1, 3, 192), 1, B);
        written(0, qoiOf(3, 1, 3, 194), 3, B, B, B);
        written(0, qoiOf(1, 1, 4, 0), 1, 0);
        written(0, qoiOf(2, 1, 4, 0, 192), 2, 0, 0);
        written(0, qoiOf(1, 1, 4, 255, 1, 2, 3, 4), 1, 0x01020304);
        written(0, qoiOf(1, 1, 3, 64), 1, 0xFEFEFEFF);
        written(0, qoiOf(1, 1, 3, 127), 1, 0x010101FF);
        written(0, qoiOf(1, 1, 3, 64 + 48 + 8 + 1), 1, 0x0100FFFF);
        written(0, qoiOf(1, 1, 3, 128 + 34, 0x88), 1, 0x020202FF);
        written(0, qoiOf(1, 1, 3, 128 + 29, 0x88), 1, 0xFDFDFDFF);
        written(0, qoiOf(1, 1, 3, 128, 0x88), 1, 0xE0E0E0FF);
        written(0, qoiOf(1, 1, 3, 191, 0x88), 1, 0x1F1F1FFF);
        written(0, qoiOf(1, 1, 3, 254, 32, 32, 32), 1, 0x202020FF);
        written(0, qoiOf(1, 1, 3, 254, 0xDF, 0xDF, 0xDF), 1, 0xDFDFDFFF);
        written(0, qoiOf(1, 1, 3, 160, 0xF0), 1, 0x0700F8FF);
        written(0, qoiOf(1, 1, 3, 254, 8, 0, 0), 1, 0x080000FF);
        written(0, qoiOf(1, 1, 3, 254, 0, 0, 8), 1, 0x000008FF);
        written(0, qoiOf(1, 1, 3, 254, 0xF7, 0, 0), 1, 0xF70000FF);
        written(0, qoiOf(1, 1, 3, 191, 0xF0), 1, 0x261F17FF);
        written(0, qoiOf(1, 1, 3, 254, 0x27, 0x1F, 0x1F), 1, 0x271F1FFF);
        // Red's and blue's difference less green's goes round, too: 127 - -31 is 158, that is -98.
        written(0, qoiOf(1, 1, 3, 254, 127, 225, 225), 1, 0x7FE1E1FF);
        written(0, qoiOf(2, 1, 3, 254, 100, 0, 100, 128 + 32 - 28, 0x88), 2, 0x640064FF, 0x48E448FF);
        written(0, qoiOf(3, 1, 3, 254, 100, 0, 0, 254, 0, 100, 0, (300 + 2805) % 64), 3, 0x640000FF, 0x006400FF,
            0x640000FF);
        // Black stands at its place after the run that begins the file.
        written(0, qoiOf(3, 1, 3, 192, 127, 53), 3, B, 0x010101FF, B);
        written(0, qoiOf(2, 1, 4, 255, 9, 9, 9, 0, 255, 9, 9, 9, 1), 2, 0x09090900, 0x09090901);
        written(0, qoiOf(1, 3, 4, 255, 9, 9, 9, 0, 193), 1, 0x09090900, 0x09090900, 0x09090900);
        written(0, qoiOf(2, 1, 4, 255, 255, 255, 255, 7, 127), 2, 0xFFFFFF07, 0x00000007);
    }

    private static void pnm() {
        written(1, Bytes.of("P1\n2 3\n10\n01\n11\n"), 2, B, W, W, B, B, B);
        written(2, Bytes.of("P2\n1 3\n255\n0\n255\n9\n"), 1, B, W, 0x090909FF);
        written(2, Bytes.of("P2\n2 1\n255\n10\n100\n"), 2, 0x0A0A0AFF, 0x646464FF);
        written(3, Bytes.of("P3\n2 1\n255\n1 2 3\n200 192 191\n"), 2, R, G);
        written(3, Bytes.of("P3\n1 1\n255\n0 10 100\n"), 1, 0x000A64FF);
        written(4, Bytes.of("P4\n3 2\n\240\100"), 3, B, W, B, W, B, W);
        written(4, Bytes.of("P4\n9 1\n\001\200"), 9, W, W, W, W, W, W, W, B, B);
        written(4, Bytes.of("P4\n8 1\n\377"), 8, B, B, B, B, B, B, B, B);
        written(5, Bytes.of("P5\n3 1\n255\n\000\377\011"), 3, B, W, 0x090909FF);
        written(6, Bytes.of("P6\n2 1\n255\n\001\002\003\310\300\277"), 2, R, G);
    }

    private static void sizesInTexts() {
        for (int side : new int[] {1, 9, 10, 99, 100, 101, 999, 1000, 1001, 1999, 2000, 2998, 3999, 4000, 4095, 4096}) {
            RasterMint x = new RasterMint();
            String head = "P4\n" + side + " 1\n";
            x.make(0, side, 1, W);
            Check.due("P4 of " + side + " x 1", x.write(0, 4), head.length() + (side + 7) / 8);
            Check.due("P4 of " + side + " x 1", new String(Check.output(x), 0, head.length()).equals(head), true);
            head = "P5\n1 " + side + "\n255\n";
            x.make(0, 1, side, W);
            Check.due("P5 of 1 x " + side, x.write(0, 5), head.length() + side);
            Check.due("P5 of 1 x " + side, new String(Check.output(x), 0, head.length()).equals(head), true);
        }
        int[] grays = spread(256, B, 0x01010100);
        StringBuilder text = new StringBuilder("P2\n256 1\n255\n");
        for (int v = 0; v < 256; v++) {
            text.append(v).append('\n');
        }
        written(2, Bytes.of(text.toString()), 256, grays);
    }

    private static Bytes bmpOf(int width, int height, int bits, int compression, int used, int size) {
        return new Bytes().text("BM").low4(54 + 4 * used + size, 0, 54 + 4 * used, 40, width, height).low2(1, bits)
            .low4(compression, size, 2835, 2835, used, 0);
    }

    private static void bmp() {
        written(7, bmpOf(1, 2, 24, 0, 0, 8).add(0xBF, 0xC0, 0xC8, 0, 3, 2, 1, 0).file(), 1, R, G);
        written(7, bmpOf(4, 1, 24, 0, 0, 12).add(3, 2, 1, 3, 2, 1, 3, 2, 1, 3, 2, 1).file(), 4, R, R, R, R);
        written(7, bmpOf(2, 1, 24, 0, 0, 8).add(3, 2, 1, 0xBF, 0xC0, 0xC8, 0, 0).file(), 2, R, G);
        written(7, bmpOf(3, 1, 24, 0, 0, 12).add(3, 2, 1, 3, 2, 1, 3, 2, 1, 0, 0, 0).file(), 3, R, R, R);
        written(8, bmpOf(3, 2, 8, 0, 2, 8).add(3, 2, 1, 0, 0xBF, 0xC0, 0xC8, 0).add(1, 1, 0, 0, 0, 1, 1, 0).file(), 3,
            R, G, G, G, G, R);
        written(8, bmpOf(4, 1, 8, 0, 1, 4).add(3, 2, 1, 0).add(0, 0, 0, 0).file(), 4, R, R, R, R);
        written(9, bmpOf(3, 2, 8, 1, 2, 12).add(3, 2, 1, 0, 0xBF, 0xC0, 0xC8, 0)
            .add(2, 1, 1, 0, 0, 0, 1, 0, 2, 1, 0, 1).file(), 3, R, G, G, G, G, R);
        written(9, bmpOf(1, 1, 8, 1, 1, 4).add(3, 2, 1, 0).add(1, 0, 0, 1).file(), 1, R);
    }

    private static Bytes tgaOf(int type, int many, int deep, int width, int height, int bits, int flags) {
        return new Bytes().add(0, deep > 0 ? 1 : 0, type).low2(0, many).add(deep).low2(0, 0, width, height)
            .add(bits, flags);
    }

    private static void tga() {
        written(10, tgaOf(2, 0, 0, 2, 1, 24, 32).add(3, 2, 1, 0xBF, 0xC0, 0xC8).file(), 2, R, G);
        written(10, tgaOf(2, 0, 0, 1, 2, 32, 40).add(3, 2, 1, 255, 6, 5, 4, 7).file(), 1, R, 0x04050607);
        written(11, tgaOf(10, 0, 0, 3, 1, 24, 32).add(129, 3, 2, 1, 0, 0xBF, 0xC0, 0xC8).file(), 3, R, R, G);
        written(11, tgaOf(10, 0, 0, 3, 1, 24, 32).add(0, 0xBF, 0xC0, 0xC8, 129, 3, 2, 1).file(), 3, G, R, R);
        written(11, tgaOf(10, 0, 0, 2, 2, 32, 40).add(129, 3, 2, 1, 255, 1, 3, 2, 1, 255, 6, 5, 4, 7).file(), 2, R, R,
            R, 0x04050607);
        written(12, tgaOf(3, 0, 0, 3, 1, 8, 32).add(0, 255, 9).file(), 3, B, W, 0x090909FF);
        written(13, tgaOf(11, 0, 0, 5, 1, 8, 32).add(1, 0, 255, 130, 9).file(), 5, B, W, 0x090909FF, 0x090909FF,
            0x090909FF);
        written(13, tgaOf(11, 0, 0, 1, 2, 8, 32).add(0, 9, 0, 9).file(), 1, 0x090909FF, 0x090909FF);
        written(13, tgaOf(11, 0, 0, 4, 1, 8, 32).add(129, 0, 129, 255).file(), 4, B, B, W, W);
        written(14, tgaOf(1, 2, 24, 3, 1, 8, 32).add(3, 2, 1, 0xBF, 0xC0, 0xC8, 0, 1, 0).file(), 3, R, G, R);
        written(14, tgaOf(1, 2, 32, 2, 1, 8, 40).add(6, 5, 4, 7, 3, 2, 1, 255, 0, 1).file(), 2, 0x04050607, R);
        written(15, tgaOf(9, 2, 24, 3, 1, 8, 32).add(3, 2, 1, 0xBF, 0xC0, 0xC8, 0, 0, 129, 1).file(), 3, R, G, G);
        written(15, tgaOf(9, 1, 32, 1, 1, 8, 40).add(6, 5, 4, 7, 0, 0).file(), 1, 0x04050607);
    }

    private static Bytes pcxOf(int planes, int step, int width, int height) {
        return new Bytes().add(10, 5, 1, 8).low2(0, 0, width - 1, height - 1, 72, 72).times(49, 0).add(planes).low2(step)
            .add(1).times(59, 0);
    }

    private static void pcx() {
        written(16, pcxOf(3, 2, 1, 1).add(1, 0, 2, 0, 3, 0).file(), 1, R);
        written(16, pcxOf(3, 2, 2, 1).add(194, 1, 194, 2, 194, 3).file(), 2, R, R);
        written(16, pcxOf(3, 2, 2, 1).add(193, 0xC8, 1, 193, 0xC0, 2, 0xBF, 3).file(), 2, G, R);
        written(16, pcxOf(3, 2, 1, 2).add(194, 0, 194, 0, 194, 0, 1, 0, 2, 0, 3, 0).file(), 1, B, R);
        written(16, pcxOf(3, 4, 3, 1).add(194, 1, 194, 0, 194, 2, 194, 0, 194, 3, 194, 0).file(), 3, R, R, B);
        written(17, pcxOf(1, 4, 3, 1).add(0, 194, 1, 0).add(12, 1, 2, 3, 0xC8, 0xC0, 0xBF).times(762, 0).file(), 3, R, G,
            G);
        written(17, pcxOf(1, 2, 1, 2).add(194, 0, 1, 0).add(12, 1, 2, 3, 0xC8, 0xC0, 0xBF).times(762, 0).file(), 1, R, G);
    }

    /** Runs at and over the most that a form takes, held against the model. */
    private static void longRuns() {
        for (int width : new int[] {62, 63, 64, 69, 70, 71, 126, 127, 128, 129, 140, 141, 255, 256, 257, 511}) {
            for (int form = 0; form < 18; form++) {
                model(form, width, W, 0);
                model(form, width, B, 0);
                model(form, width, B, 0x01010100);
                model(form, width, 0xC1C1C1FF, 0);
                model(form, width, 0x10000003, 0x00020300);
            }
        }
    }

    private static void model(int form, int width, int v, int step) {
        RasterMint x = new RasterMint();
        ModelMint m = new ModelMint();
        x.make(0, width, 2, 0x303030FF);
        m.make(0, width, 2, 0x303030FF);
        x.sweep(0, 0, 0, 2 * width - 3, v, step);
        m.sweep(0, 0, 0, 2 * width - 3, v, step);
        String name = "form " + form + ", width " + width + ", from " + v + " by " + step;
        Check.due(name, x.write(0, form), m.write(0, form));
        for (int i = 0; m.byteAt(i) >= 0; i++) {
            if (x.byteAt(i) != m.byteAt(i)) {
                Check.due(name + ": byte " + i, x.byteAt(i), m.byteAt(i));
                return;
            }
        }
    }

    private static void largest() {
        RasterMint x = new RasterMint();
        x.make(0, 4096, 1, W);
        Check.due("P3 of 4096 x 1", x.write(0, 3), 14 + 4096 * 12);
        Check.due("the last byte", x.byteAt(14 + 4096 * 12 - 1), 10);
        Check.due("again", x.again(), 14 + 4096 * 12);
        Check.due("read", x.read(1, 1), 0);
        Check.due("same", x.same(0, 1), true);
        x.make(0, 1, 4096, W);
        Check.due("P3 of 1 x 4096", x.write(0, 3), 14 + 4096 * 12);
        Check.due("PCX of 1 x 4096", x.write(0, 16), 128 + 4096 * 9);
        Check.due("a chain of all", x.chain(0, 3 | 16 << 5 | 9 << 10 | 15 << 15 | 1 << 20 | 2 << 25, 6), 6);
    }
}
