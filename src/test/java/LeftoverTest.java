import java.util.ArrayList;
import java.util.List;

/**
 * "a call that .. answers a fault changes nothing but what is told there": nothing of a refused file is left in the next
 * one, and nothing of a larger raster in a smaller one.
 */
public final class LeftoverTest {
    private static final int[] FAMILIES = {0, 1, 2, 3, 4};

    private final int family;
    private final byte[] file;

    private LeftoverTest(int family, byte[] file) {
        this.family = family;
        this.file = file;
    }

    public static void main(String[] args) {
        List<LeftoverTest> good = goodFiles();
        List<LeftoverTest> bad = badFiles(good);
        for (LeftoverTest next : good) {
            for (LeftoverTest before : bad) {
                next.behind(before, true);
            }
            for (LeftoverTest before : good) {
                next.behind(before, false);
            }
        }
        smallerRasters();
        Check.finish("LeftoverTest");
    }

    /** A small raster behind one of 4096 pixels, all unlike and with alphas, is as on a new object. */
    private static void smallerRasters() {
        int[][] sizes = {{1, 1}, {2, 1}, {1, 2}, {3, 3}, {63, 64}, {255, 1}};
        int[][] paints = {{0x000000FF, 0}, {-1, 0}, {0x707070FF, 0}, {0x102030FF, 0}, {0x000000FF, 0x01010100}, {0x05, 256}};
        for (int[] size : sizes) {
            for (int[] paint : paints) {
                for (int way = 0; way < 3; way++) {
                    smaller(size, paint, way);
                }
            }
        }
    }

    private static void paint(RasterMint x, int shelf, int[] size, int[] paint) {
        x.make(shelf, size[0], size[1], 0);
        x.sweep(shelf, 0, 0, 4096, paint[0], paint[1]);
    }

    private static void smaller(int[] size, int[] paint, int way) {
        RasterMint fresh = new RasterMint();
        paint(fresh, 0, size, paint);
        RasterMint x = new RasterMint();
        paint(x, 0, new int[] {64, 64}, new int[] {0x01020304, 0x01030507});
        x.write(0, 10);
        x.copy(0, 2);
        Check.due("all colours", x.raster(0, 2), 4096);
        if (way == 0) {
            paint(x, 0, size, paint);
        } else {
            paint(x, 1, size, paint);
            if (way == 1) {
                x.copy(1, 0);
            } else {
                x.write(1, 10);
                x.again();
                x.read(3, 0);
            }
        }
        String name = size[0] + " x " + size[1] + " of " + paint[0] + " by " + paint[1] + ", way " + way;
        for (int what = 0; what < 6; what++) {
            Check.due(name + ": raster(0, " + what + ")", x.raster(0, what), fresh.raster(0, what));
        }
        for (int form = 0; form < 18; form++) {
            Check.due(name + ": all colours again", x.raster(2, 2), 4096);
            Check.due(name + ": holds " + form, x.holds(0, form), fresh.holds(0, form));
            Check.due(name + ": write " + form, x.write(0, form), fresh.write(0, form));
            if (fresh.holds(0, form)) {
                byte[] due = Check.output(fresh);
                Check.due(name + ": written " + form, java.util.Arrays.equals(Check.output(x), due), true);
            }
        }
    }

    private static List<LeftoverTest> goodFiles() {
        List<LeftoverTest> all = new ArrayList<>();
        byte[] qoi = new Bytes().text("qoif").high4(3, 2).add(4, 1).add(5, 254, 1, 2, 3, 192, 255, 9, 8, 7, 6, 53, 160, 1)
            .times(7, 0).add(1).file();
        all.add(new LeftoverTest(0, qoi));
        all.add(new LeftoverTest(1, Bytes.of("P1 3 2 10#\n1 001")));
        all.add(new LeftoverTest(1, Bytes.of("P4 9 2 abcd")));
        all.add(new LeftoverTest(1, Bytes.of("P3 2 1 300 1 2 300 4 5 6 # end")));
        all.add(new LeftoverTest(1, Bytes.of("P6 1 1 300 \0\1\1\0\0\7")));
        all.add(new LeftoverTest(2, bmp(3, 2, 4, 2, 3, 0, 2, 1, 1, 1, 0x20, 0, 1)));
        all.add(new LeftoverTest(2, bmp(3, 2, 8, 1, 2, 2, 1, 0, 0, 0, 3, 1, 0, 1, 9, 0, 1)));
        all.add(new LeftoverTest(2, bmp(3, -2, 8, 0, 2, 0, 1, 0, 9, 1, 0, 1, 9)));
        all.add(new LeftoverTest(2, bmp(2, 1, 24, 0, 0, 1, 2, 3, 4, 5, 6, 7, 8)));
        all.add(new LeftoverTest(3, new Bytes().add(1, 1, 9).low2(3, 2).add(16).low2(0, 0, 3, 2).add(8, 33).add(77)
            .add(1, 2, 3, 132).add(129, 3, 0, 4, 2, 4, 3, 4).file()));
        all.add(new LeftoverTest(3, new Bytes().add(0, 0, 10).low2(0, 0).add(0).low2(0, 0, 3, 2).add(32, 24)
            .add(130, 1, 2, 3, 4, 1, 5, 6, 7, 8, 9, 8, 7, 6, 128, 1, 1, 1, 1).file()));
        all.add(new LeftoverTest(3, new Bytes().add(0, 0, 3).low2(0, 0).add(0).low2(0, 0, 3, 1).add(8, 0).add(1, 2, 3)
            .file()));
        all.add(new LeftoverTest(4, pcx(0, 1, 3, 2, 9, 2, 1, 2, 194, 200, 5, 6, 198, 0)));
        all.add(new LeftoverTest(4, pcx(5, 8, 3, 2, 2, 1, 1, 2, 3, 4, 5, 6)));
        byte[] tabled = pcx(5, 8, 1, 2, 2, 1, 1, 193, 255);
        all.add(new LeftoverTest(4, new Bytes().add(tabled).add(12).times(765, 3).add(1, 2, 4).file()));
        return all;
    }

    private static byte[] bmp(int width, int height, int bits, int compression, int used, int... data) {
        int offset = 54 + 4 * used;
        Bytes out = new Bytes().text("BM").low4(offset + data.length, 0, offset, 40, width, height).low2(1, bits)
            .low4(compression, data.length, 0, 0, used, 0);
        for (int i = 0; i < used; i++) {
            out.add(10 + bits + i, 20 + i, 30 + i, 0);
        }
        return out.add(data).file();
    }

    private static byte[] pcx(int version, int bits, int planes, int step, int width, int height, int... lines) {
        Bytes out = new Bytes().add(10, version, 1, bits).low2(0, 0, width - 1, height - 1, 0, 0);
        for (int i = 0; i < 48; i++) {
            out.add(i + bits);
        }
        return out.add(0, planes).low2(step).times(60, 0).add(lines).file();
    }

    /** Each good file, cut in the middle of what it has, a byte short, and with a byte behind. */
    private static List<LeftoverTest> badFiles(List<LeftoverTest> good) {
        List<LeftoverTest> all = new ArrayList<>();
        for (LeftoverTest one : good) {
            int n = one.file.length;
            for (int less = 1; less <= Math.min(12, n); less++) {
                byte[] cut = java.util.Arrays.copyOf(one.file, n - less);
                if (one.family == 2) {
                    int size = cut.length - (cut[10] & 255);
                    cut = Bytes.with(Bytes.with(cut, 2, n - less), 34, size, size >> 8, size >> 16, size >> 24);
                }
                all.add(new LeftoverTest(one.family, cut));
            }
            all.add(new LeftoverTest(one.family, new Bytes().add(one.file).add('x').file()));
        }
        for (int family : FAMILIES) {
            all.add(new LeftoverTest(family, new byte[0]));
        }
        return all;
    }

    private void behind(LeftoverTest before, boolean mayFail) {
        RasterMint fresh = new RasterMint();
        Check.tape(fresh, file);
        Check.due("a good file of family " + family, fresh.read(family, 0), 0);
        RasterMint x = new RasterMint();
        x.make(0, 5, 5, 0x0A0B0C0D);
        Check.tape(x, before.file);
        int fault = x.read(before.family, 0);
        if (!mayFail) {
            Check.due("a good file of family " + before.family, fault, 0);
        }
        if (fault != 0) {
            Check.due("the shelf stays: width", x.raster(0, 0), 5);
            Check.due("the shelf stays: colours", x.raster(0, 2), 1);
            Check.due("the shelf stays: pixel", x.pixel(0, 4, 4), 0x0A0B0C0D);
            Check.due("told stays", x.told(0), -1);
        }
        Check.tape(x, file);
        String name = "family " + family + " behind family " + before.family;
        Check.due(name, x.read(family, 0), 0);
        for (int what = 0; what < 4; what++) {
            Check.due(name + ": told(" + what + ")", x.told(what), fresh.told(what));
        }
        Check.due(name + ": width", x.raster(0, 0), fresh.raster(0, 0));
        Check.due(name + ": height", x.raster(0, 1), fresh.raster(0, 1));
        for (int y = 0; y < fresh.raster(0, 1) && x.raster(0, 1) == fresh.raster(0, 1); y++) {
            for (int c = 0; c < fresh.raster(0, 0) && x.raster(0, 0) == fresh.raster(0, 0); c++) {
                Check.due(name + ": pixel " + c + ", " + y, x.pixel(0, c, y), fresh.pixel(0, c, y));
            }
        }
    }
}
