import java.util.Arrays;
import java.util.NoSuchElementException;
import java.util.Random;

/** Runs of calls, made from fixed seeds, on RasterMint and on the model: each answer must be the same. */
public final class RandomRunsTest {
    private static final int RUNS = 1200;
    private static final int CALLS = 480;

    private final Random random;
    private final RandomFiles files;
    private final RasterMint x = new RasterMint();
    private final ModelMint m = new ModelMint();
    private final int run;
    private int calls = 0;

    private RandomRunsTest(int run) {
        this.run = run;
        random = new Random(77000L + run);
        files = new RandomFiles(random);
    }

    public static void main(String[] args) {
        int[] faults = new int[7];
        for (int run = 0; run < RUNS; run++) {
            new RandomRunsTest(run).go(faults);
        }
        System.out.println("reads by their answer: " + Arrays.toString(faults));
        Check.finish("RandomRunsTest");
    }

    private int below(int n) {
        return random.nextInt(n);
    }

    private int of(int... values) {
        return values[below(values.length)];
    }

    private int shelf() {
        return below(40) == 0 ? of(-1, 4, Integer.MIN_VALUE, Integer.MAX_VALUE) : below(4);
    }

    private int form() {
        return below(40) == 0 ? of(-1, 18, 31, Integer.MIN_VALUE, Integer.MAX_VALUE) : below(18);
    }

    private int colour() {
        int gray = below(256) * 0x01010100 + 255;
        return of(255, -1, -1, gray, gray, random.nextInt() | 255, random.nextInt(), 0);
    }

    private void go(int[] faults) {
        while (calls < CALLS) {
            int kind = below(20);
            if (kind < 6) {
                faults[readFile()]++;
            } else if (kind < 12) {
                paint();
            } else if (kind < 17) {
                writeSome();
            } else {
                ask();
            }
        }
    }

    private void due(String call, long got, long want) {
        calls++;
        Check.due("run " + run + ": " + call, got, want);
    }

    private void due(String call, boolean got, boolean want) {
        due(call, got ? 1 : 0, want ? 1 : 0);
    }

    private int readFile() {
        int family = below(5);
        byte[] file = files.file(family);
        if (file.length > 2500) {
            file = Arrays.copyOf(file, 2500);
        }
        due("end(0)", x.end(0), m.end(0));
        for (int i = 0; i < file.length; i += 20) {
            int[] five = new int[5];
            for (int k = 0; k < 20; k++) {
                five[k / 4] = five[k / 4] << 8 | (i + k < file.length ? file[i + k] & 255 : 0);
            }
            due("feed", x.feed(five[0], five[1], five[2], five[3], five[4]), m.feed(five));
        }
        due("end(" + file.length + ")", x.end(file.length), m.end(file.length));
        int shelf = below(4);
        int fault = m.read(family, shelf);
        due("read(" + family + ", " + shelf + ") of " + Arrays.toString(file), x.read(family, shelf), fault);
        afterRead(shelf);
        return fault;
    }

    private void afterRead(int shelf) {
        due("place()", x.place(), m.place());
        for (int what = 0; what < 4; what++) {
            due("told(" + what + ")", x.told(what), m.told(what));
        }
        picture(shelf);
    }

    /** Compares all pixels, uncounted: what is asked by pixel() changes nothing. */
    private void picture(int shelf) {
        due("raster(" + shelf + ", 0)", x.raster(shelf, 0), m.raster(shelf, 0));
        due("raster(" + shelf + ", 1)", x.raster(shelf, 1), m.raster(shelf, 1));
        for (int y = 0; y < m.raster(shelf, 1) && x.raster(shelf, 1) == m.raster(shelf, 1); y++) {
            for (int c = 0; c < m.raster(shelf, 0) && x.raster(shelf, 0) == m.raster(shelf, 0); c++) {
                if (x.pixel(shelf, c, y) != m.pixel(shelf, c, y)) {
                    Check.fail("run " + run + ": pixel(" + shelf + ", " + c + ", " + y + ") answered "
                        + x.pixel(shelf, c, y) + ", due is " + m.pixel(shelf, c, y));
                    return;
                }
            }
        }
    }

    private void paint() {
        int shelf = shelf();
        int v = colour();
        switch (below(5)) {
            case 0: {
                boolean wild = below(12) == 0;
                int w = wild ? of(0, -1, 4096, 4097, 64, 46341, Integer.MAX_VALUE) : 1 + below(of(3, 20, 90));
                int h = wild ? of(0, -1, 1, 64, 46341, Integer.MAX_VALUE, -4096) : 1 + below(of(2, 6));
                due("make(" + shelf + ", " + w + ", " + h + ")", x.make(shelf, w, h, v), m.make(shelf, w, h, v));
                break;
            }
            case 1:
            case 2: {
                int n = of(below(10), below(100), 5000, -1, 0, Integer.MAX_VALUE);
                int step = of(0, 0, 0x01010100, 256, 65536, 1, -0x01010100, 0xFFFFFF00, 0x02010300, random.nextInt());
                int c = column(shelf);
                int r = row(shelf);
                outcome("sweep(" + shelf + ", " + c + ", " + r + ", " + n + ", " + v + ", " + step + ")",
                    () -> x.sweep(shelf, c, r, n, v, step), () -> m.sweep(shelf, c, r, n, v, step));
                break;
            }
            case 3: {
                int c = column(shelf);
                int r = row(shelf);
                outcome("dot(" + shelf + ", " + c + ", " + r + ", " + v + ")", () -> x.dot(shelf, c, r, v),
                    () -> m.dot(shelf, c, r, v));
                outcome("pixel(" + shelf + ", " + c + ", " + r + ")", () -> x.pixel(shelf, c, r),
                    () -> m.pixel(shelf, c, r));
                break;
            }
            default: {
                int to = shelf();
                due("copy(" + shelf + ", " + to + ")", x.copy(shelf, to), m.copy(shelf, to));
                break;
            }
        }
    }

    private int column(int shelf) {
        int width = m.raster(shelf, 0);
        return width < 1 || below(15) == 0 ? of(-1, 0, width, Integer.MAX_VALUE) : below(width);
    }

    private int row(int shelf) {
        int height = m.raster(shelf, 1);
        return height < 1 || below(15) == 0 ? of(-1, 0, height, Integer.MIN_VALUE) : below(height);
    }

    private interface Call {
        long answer();
    }

    private static long kindOf(Call call) {
        try {
            call.answer();
            return 0;
        } catch (IllegalArgumentException e) {
            return 1;
        } catch (NoSuchElementException e) {
            return 2;
        } catch (IndexOutOfBoundsException e) {
            return e.getClass() == IndexOutOfBoundsException.class ? 3 : 4;
        }
    }

    private void outcome(String text, Call mine, Call models) {
        long[] answers = new long[2];
        long a = kindOf(() -> answers[0] = mine.answer());
        long b = kindOf(() -> answers[1] = models.answer());
        due(text + " throws", a, b);
        due(text, answers[0], answers[1]);
    }

    private void writeSome() {
        int shelf = shelf();
        int form = form();
        if (below(4) == 0) {
            int forms = 0;
            int all = below(3) == 0 ? random.nextInt() : 0;
            for (int k = 0; k < 6; k++) {
                forms |= held(shelf) << 5 * k;
            }
            int n = below(12) == 0 ? of(-1, 7, Integer.MIN_VALUE) : below(7);
            int chain = all == 0 ? forms : all;
            due("chain(" + shelf + ", " + chain + ", " + n + ")", x.chain(shelf, chain, n), m.chain(shelf, chain, n));
            picture(Math.floorMod(shelf, 4));
        } else {
            due("holds(" + shelf + ", " + form + ")", x.holds(shelf, form), m.holds(shelf, form));
            due("write(" + shelf + ", " + form + ")", x.write(shelf, form), m.write(shelf, form));
        }
        output();
        if (below(3) == 0) {
            due("again()", x.again(), m.again());
            int to = shelf();
            int family = below(9) == 0 ? of(-1, 5, below(5)) : familyOf(form);
            outcome("read(" + family + ", " + to + ")", () -> x.read(family, to), () -> m.read(family, to));
            afterRead(Math.floorMod(to, 4));
        }
    }

    private int familyOf(int form) {
        return form < 0 || form > 17 ? 0 : ModelWriter.family(form);
    }

    /** A form that holds the shelf's raster, most often. */
    private int held(int shelf) {
        int form = below(18);
        for (int k = 0; k < 5 && !m.holds(shelf, form); k++) {
            form = below(18);
        }
        return form;
    }

    /** Compares the whole OUTPUT, uncounted. */
    private void output() {
        for (int i = 0; m.byteAt(i) >= 0 || x.byteAt(i) >= 0; i++) {
            if (m.byteAt(i) != x.byteAt(i)) {
                Check.fail("run " + run + ": byteAt(" + i + ") answered " + x.byteAt(i) + ", due is " + m.byteAt(i));
                return;
            }
        }
        int i = of(0, below(100), below(1000), -1, Integer.MAX_VALUE);
        outcome("bytes(" + i + ")", () -> x.bytes(i), () -> m.bytes(i));
    }

    private void ask() {
        int shelf = shelf();
        int other = shelf();
        due("same(" + shelf + ", " + other + ")", x.same(shelf, other), m.same(shelf, other));
        int what = of(0, 1, 2, 3, 4, 5, 6, -1);
        due("raster(" + shelf + ", " + what + ")", x.raster(shelf, what), m.raster(shelf, what));
        due("told(" + what + ")", x.told(what), m.told(what));
        due("place()", x.place(), m.place());
        int n = below(200);
        due("end(" + n + ")", x.end(n), m.end(n));
    }
}
