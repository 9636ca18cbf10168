import java.util.ArrayList;
import java.util.List;

/** Counts the answers that are not the due ones, and ends the test by them. */
final class Check {
    private static final int SHOWN = 40;
    private static int asked = 0;
    private static int wrong = 0;

    private Check() {
    }

    static void due(String call, long got, long want) {
        asked++;
        if (got != want) {
            fail(call + " answered " + got + ", due is " + want);
        }
    }

    static void due(String call, boolean got, boolean want) {
        asked++;
        if (got != want) {
            fail(call + " answered " + got + ", due is " + want);
        }
    }

    /** The call must throw just this class, not one below it. */
    static void dueThrow(String call, Class<? extends RuntimeException> want, Runnable run) {
        asked++;
        try {
            run.run();
        } catch (RuntimeException e) {
            if (e.getClass() != want) {
                fail(call + " threw " + e.getClass().getName() + ", due is " + want.getName());
            }
            return;
        }
        fail(call + " threw nothing, due is " + want.getName());
    }

    static void fail(String text) {
        wrong++;
        if (wrong <= SHOWN) {
            System.out.println(text);
        }
    }

    static void finish(String test) {
        System.out.println(test + ": " + asked + " answers, " + wrong + " wrong");
        if (wrong != 0 || asked == 0) {
            System.exit(1);
        }
    }

    /** Lays a file on the TAPE of an object, in place of what it had. */
    static void tape(RasterMint x, byte[] file) {
        due("end(0)", x.end(0), true);
        int[] five = new int[5];
        for (int i = 0; i < file.length; i += 20) {
            for (int k = 0; k < 20; k++) {
                int b = i + k < file.length ? file[i + k] & 255 : 0xA5;
                five[k / 4] = five[k / 4] << 8 | b;
            }
            due("feed", x.feed(five[0], five[1], five[2], five[3], five[4]), i + 20);
        }
        due("end(" + file.length + ")", x.end(file.length), true);
    }

    static byte[] output(RasterMint x) {
        List<Integer> all = new ArrayList<>();
        for (int i = 0; x.byteAt(i) >= 0; i++) {
            all.add(x.byteAt(i));
        }
        byte[] file = new byte[all.size()];
        for (int i = 0; i < file.length; i++) {
            file[i] = (byte) (int) all.get(i);
        }
        return file;
    }

    /** The file must be refused, at this place, and the shelf, told() and the OUTPUT stay. */
    static void refused(String name, int family, byte[] file, int fault, int place) {
        RasterMint x = new RasterMint();
        x.make(2, 3, 1, 0x01020304);
        x.make(3, 1, 1, 0x01020304);
        x.write(3, 0);
        tape(x, file);
        due(name + ": read", x.read(family, 2), fault);
        due(name + ": place", x.place(), place);
        due(name + ": told", x.told(0), -1);
        due(name + ": width", x.raster(2, 0), 3);
        due(name + ": height", x.raster(2, 1), 1);
        due(name + ": colours", x.raster(2, 2), 1);
        due(name + ": pixel", x.pixel(2, 0, 0), 0x01020304);
        due(name + ": output", x.byteAt(0), 'q');
        due(name + ": the tape is empty", x.end(1), false);
    }

    /** Each beginning of a file that ends too soon is refused where it ends. */
    static void refusedIfCut(String name, int family, byte[] file) {
        for (int n = 0; n < file.length; n++) {
            byte[] cut = java.util.Arrays.copyOf(file, n);
            refused(name + " cut to " + n, family, cut, 1, n);
        }
    }

    /** Each value of the byte at a place: those listed are read with 0, each other one is refused. */
    static void eachValue(String name, int family, byte[] file, int place, int fault, int where, int... taken) {
        for (int v = 0; v < 256; v++) {
            byte[] changed = Bytes.with(file, place, v);
            boolean can = false;
            for (int one : taken) {
                can |= one == v;
            }
            if (can) {
                RasterMint x = new RasterMint();
                tape(x, changed);
                due(name + " " + v + ": read", x.read(family, 0), 0);
                due(name + " " + v + ": place", x.place(), -1);
            } else {
                refused(name + " " + v, family, changed, fault, where);
            }
        }
    }

    /** The file must be read, and give a raster of this size; the first and the last pixel are asked. */
    static void sized(String name, int family, byte[] file, int width, int height, int v, int last) {
        RasterMint x = new RasterMint();
        tape(x, file);
        due(name + ": read", x.read(family, 2), 0);
        due(name + ": place", x.place(), -1);
        due(name + ": width", x.raster(2, 0), width);
        due(name + ": height", x.raster(2, 1), height);
        if (x.raster(2, 0) == width && x.raster(2, 1) == height) {
            due(name + ": the first pixel", x.pixel(2, 0, 0), v);
            due(name + ": the last pixel", x.pixel(2, width - 1, height - 1), last);
        }
    }

    /** The file must be read, and give a raster of this WIDTH with these pixels. */
    static void taken(String name, int family, byte[] file, int width, int... pixels) {
        RasterMint x = new RasterMint();
        tape(x, file);
        due(name + ": read", x.read(family, 1), 0);
        due(name + ": place", x.place(), -1);
        due(name + ": family", x.told(0), family);
        due(name + ": width", x.raster(1, 0), width);
        due(name + ": height", x.raster(1, 1), pixels.length / width);
        for (int i = 0; i < pixels.length && x.raster(1, 0) == width; i++) {
            int y = i / width;
            if (y < x.raster(1, 1)) {
                due(name + ": pixel " + i % width + ", " + y, x.pixel(1, i % width, y), pixels[i]);
            }
        }
        due(name + ": the tape is empty", x.end(1), false);
    }

    static void told(String name, int family, byte[] file, int first, int second, int third) {
        RasterMint x = new RasterMint();
        tape(x, file);
        due(name + ": read", x.read(family, 0), 0);
        due(name + ": told(0)", x.told(0), family);
        due(name + ": told(1)", x.told(1), first);
        due(name + ": told(2)", x.told(2), second);
        due(name + ": told(3)", x.told(3), third);
        due(name + ": told(4)", x.told(4), -1);
        due(name + ": told(-1)", x.told(-1), -1);
    }
}
