import java.util.Arrays;
import java.util.NoSuchElementException;

/** A house for pictures: files of five families are read to rasters, rasters are written by eighteen forms. */
public final class RasterMint {
    public static final int NONE = -1;

    private static final int SHELVES = 4;
    private static final int FAMILIES = 5;
    private static final int MOST_PIXELS = 4096;
    private static final int MOST_BYTES = 65536;
    private static final int MOST_INDEXED = 256;
    private static final int MOST_LINKS = 6;
    private static final int FED_BYTES = 20;
    private static final int NOTHING_TO_WRITE = -2;

    private static final int CUT_SHORT = 1;
    private static final int BAD_VALUE = 2;
    private static final int TOO_LARGE = 3;
    private static final int BAD_RUN = 4;
    private static final int LEFT_OVER = 5;
    private static final int NO_COLOUR = 6;

    private static final int BLACK = 255;
    private static final int WHITE = -1;

    private final Raster[] shelves;
    private final Format[] formats;
    private final ByteRow tape;
    private final ByteRow output;
    private final Source source;
    private final Palette palette;
    private final int[] facts;
    private Raster spare;
    private int faultPlace;

    public RasterMint() {
        shelves = new Raster[SHELVES];
        for (int i = 0; i < SHELVES; i++) {
            shelves[i] = new Raster();
        }
        spare = new Raster();
        tape = new ByteRow();
        output = new ByteRow();
        source = new Source(tape);
        palette = new Palette();
        formats = new Format[FAMILIES];
        formats[0] = new Qoi();
        formats[1] = new Pnm();
        formats[2] = new Bmp(palette);
        formats[3] = new Tga(palette);
        formats[4] = new Pcx(palette);
        facts = new int[4];
        Arrays.fill(facts, NONE);
        faultPlace = NONE;
    }

    public int feed(int a, int b, int c, int d, int e) {
        if (tape.count > MOST_BYTES - FED_BYTES) {
            return NONE;
        }
        tape.addHigh4(a);
        tape.addHigh4(b);
        tape.addHigh4(c);
        tape.addHigh4(d);
        tape.addHigh4(e);
        return tape.count;
    }

    public boolean end(int n) {
        if (n < 0 || n > tape.count) {
            return false;
        }
        tape.count = n;
        return true;
    }

    public int again() {
        if (output.count == 0) {
            return NONE;
        }
        tape.takeFrom(output);
        return tape.count;
    }

    public int read(int family, int shelf) throws IllegalArgumentException, NoSuchElementException {
        if (!isShelf(shelf)) {
            throw new IllegalArgumentException("no such shelf");
        }
        if (family < 0 || family >= FAMILIES) {
            throw new NoSuchElementException("no such family");
        }
        int fault = takeIn(tape, family, shelf);
        faultPlace = fault == 0 ? NONE : source.faultPlace;
        tape.count = 0;
        return fault;
    }

    public int place() {
        return faultPlace;
    }

    public int told(int what) {
        return what >= 0 && what < facts.length ? facts[what] : NONE;
    }

    public int write(int shelf, int form) {
        if (!hasRaster(shelf) || familyOf(form) == NONE) {
            return NOTHING_TO_WRITE;
        }
        return putOut(shelves[shelf], form) ? output.count : NONE;
    }

    public int byteAt(int i) {
        return output.at(i);
    }

    public long bytes(int i) throws NoSuchElementException {
        if (i < 0 || i >= output.count) {
            throw new NoSuchElementException("no such byte");
        }
        long all = 0;
        for (int k = 0; k < 8; k++) {
            int b = output.at(i + k);
            all = all << 8 | (b == NONE ? 0 : b);
        }
        return all;
    }

    public boolean make(int shelf, int width, int height, int v) {
        if (!isShelf(shelf) || width < 1 || height < 1 || isTooLarge(width, height)) {
            return false;
        }
        Raster r = shelves[shelf];
        r.width = width;
        r.height = height;
        r.fill(v);
        return true;
    }

    public int dot(int shelf, int x, int y, int v) throws IllegalArgumentException, IndexOutOfBoundsException {
        int i = spot(shelf, x, y);
        Raster r = shelves[shelf];
        int old = r.get(i);
        r.set(i, v);
        return old;
    }

    public int sweep(int shelf, int x, int y, int n, int v, int step)
            throws IllegalArgumentException, IndexOutOfBoundsException {
        int start = spot(shelf, x, y);
        Raster r = shelves[shelf];
        int many = Math.min(Math.max(n, 0), r.count() - start);
        for (int k = 0; k < many; k++) {
            r.set(start + k, v + k * step);
        }
        return many;
    }

    public int pixel(int shelf, int x, int y) throws IllegalArgumentException, IndexOutOfBoundsException {
        int i = spot(shelf, x, y);
        return shelves[shelf].get(i);
    }

    public int raster(int shelf, int what) {
        if (!hasRaster(shelf)) {
            return NONE;
        }
        Raster r = shelves[shelf];
        switch (what) {
            case 0:
                return r.width;
            case 1:
                return r.height;
            case 2:
                palette.gather(r);
                return palette.count;
            case 3:
                return r.isOpaque() ? 1 : 0;
            case 4:
                return r.isGray() ? 1 : 0;
            case 5:
                return r.isPlain() ? 1 : 0;
            default:
                return NONE;
        }
    }

    public boolean holds(int shelf, int form) {
        return hasRaster(shelf) && fits(shelves[shelf], form);
    }

    public boolean copy(int shelf, int to) {
        if (!isShelf(shelf) || !isShelf(to)) {
            return false;
        }
        if (shelf != to) {
            shelves[to].takeFrom(shelves[shelf]);
        }
        return true;
    }

    public boolean same(int a, int b) {
        return isShelf(a) && isShelf(b) && shelves[a].isLike(shelves[b]);
    }

    public int chain(int shelf, int forms, int n) {
        if (!hasRaster(shelf) || n < 0 || n > MOST_LINKS) {
            return NONE;
        }
        for (int k = 0; k < n; k++) {
            int form = forms >> 5 * k & 31;
            if (!putOut(shelves[shelf], form) || takeIn(output, familyOf(form), shelf) != 0) {
                return k;
            }
        }
        return n;
    }

    private static boolean isShelf(int shelf) {
        return shelf >= 0 && shelf < SHELVES;
    }

    private boolean hasRaster(int shelf) {
        return isShelf(shelf) && !shelves[shelf].isEmpty();
    }

    private int spot(int shelf, int x, int y) {
        if (!hasRaster(shelf)) {
            throw new IllegalArgumentException("no such raster");
        }
        Raster r = shelves[shelf];
        if (x < 0 || x >= r.width || y < 0 || y >= r.height) {
            throw new IndexOutOfBoundsException("no such pixel");
        }
        return y * r.width + x;
    }

    /** Reads a file to a shelf: 0, or the fault, whose place the source then knows. */
    private int takeIn(ByteRow file, int family, int shelf) {
        if (family < 0 || family >= FAMILIES) {
            return BAD_VALUE;
        }
        Format format = formats[family];
        source.open(file);
        // Reading goes to a raster of its own, so that a fault leaves the shelf as it was.
        try {
            format.decode(source, spare);
        } catch (IllegalStateException refused) {
            return source.fault;
        }
        Raster old = shelves[shelf];
        shelves[shelf] = spare;
        spare = old;
        facts[0] = family;
        facts[1] = format.first;
        facts[2] = format.second;
        facts[3] = format.third;
        return 0;
    }

    private boolean putOut(Raster r, int form) {
        int family = familyOf(form);
        if (family == NONE || !fits(r, form)) {
            return false;
        }
        output.count = 0;
        formats[family].encode(r, form, output);
        return true;
    }

    private static int familyOf(int form) {
        if (form < 0 || form > 17) {
            return NONE;
        }
        if (form == 0) {
            return 0;
        }
        if (form < 7) {
            return 1;
        }
        if (form < 10) {
            return 2;
        }
        return form < 16 ? 3 : 4;
    }

    private boolean fits(Raster r, int form) {
        switch (form) {
            case 0: case 10: case 11:
                return true;
            case 1: case 4:
                return r.isPlain();
            case 2: case 5: case 12: case 13:
                return r.isOpaque() && r.isGray();
            case 3: case 6: case 7: case 16:
                return r.isOpaque();
            case 8: case 9: case 17:
                return r.isOpaque() && hasFewColours(r);
            case 14: case 15:
                return hasFewColours(r);
            default:
                return false;
        }
    }

    private boolean hasFewColours(Raster r) {
        palette.gather(r);
        return palette.count <= MOST_INDEXED;
    }

    // Each side is looked at alone first: the product of two unsigned ints may pass the end of a long.
    private static boolean isTooLarge(long width, long height) {
        return width > MOST_PIXELS || height > MOST_PIXELS || width * height > MOST_PIXELS;
    }

    private static int pixelOf(int red, int green, int blue, int alpha) {
        return red << 24 | green << 16 | blue << 8 | alpha;
    }

    private static int redOf(int pixel) {
        return pixel >>> 24;
    }

    private static int greenOf(int pixel) {
        return pixel >>> 16 & 255;
    }

    private static int blueOf(int pixel) {
        return pixel >>> 8 & 255;
    }

    private static int alphaOf(int pixel) {
        return pixel & 255;
    }

    private static int grayOf(int value) {
        return pixelOf(value, value, value, 255);
    }

    private static int ofFiveBits(int v) {
        return (510 * v + 31) / 62;
    }

    private static int ofSixteenBits(int v, int alpha) {
        return pixelOf(ofFiveBits(v >> 10 & 31), ofFiveBits(v >> 5 & 31), ofFiveBits(v & 31), alpha);
    }

    /** A raster; of WIDTH 0 it stands for an empty shelf. */
    private static final class Raster {
        final int[] pixels = new int[MOST_PIXELS];
        int width;
        int height;

        boolean isEmpty() {
            return width == 0;
        }

        int count() {
            return width * height;
        }

        int get(int i) {
            return i >= 0 && i < MOST_PIXELS ? pixels[i] : 0;
        }

        void set(int i, int v) {
            if (i >= 0 && i < MOST_PIXELS) {
                pixels[i] = v;
            }
        }

        void fill(int v) {
            int many = count();
            for (int i = 0; i < many; i++) {
                set(i, v);
            }
        }

        boolean isOpaque() {
            int many = count();
            for (int i = 0; i < many; i++) {
                if (alphaOf(get(i)) != 255) {
                    return false;
                }
            }
            return true;
        }

        boolean isGray() {
            int many = count();
            for (int i = 0; i < many; i++) {
                int v = get(i);
                if (redOf(v) != greenOf(v) || greenOf(v) != blueOf(v)) {
                    return false;
                }
            }
            return true;
        }

        boolean isPlain() {
            int many = count();
            for (int i = 0; i < many; i++) {
                int v = get(i);
                if (v != BLACK && v != WHITE) {
                    return false;
                }
            }
            return true;
        }

        boolean isLike(Raster other) {
            if (width != other.width || height != other.height) {
                return false;
            }
            int many = count();
            for (int i = 0; i < many; i++) {
                if (get(i) != other.get(i)) {
                    return false;
                }
            }
            return true;
        }

        void takeFrom(Raster other) {
            width = other.width;
            height = other.height;
            int many = count();
            for (int i = 0; i < many; i++) {
                set(i, other.get(i));
            }
        }
    }

    /** The COLOURS of one raster, with the number of each. */
    private static final class Palette {
        private static final int SLOTS = 8192;

        final int[] colours = new int[MOST_PIXELS];
        // A slot has 1 + a colour's number, or 0; twice as many slots as pixels keep the walks short.
        final int[] slots = new int[SLOTS];
        int count;

        void gather(Raster r) {
            Arrays.fill(slots, 0);
            count = 0;
            int many = r.count();
            for (int i = 0; i < many; i++) {
                int v = r.get(i);
                int slot = slotOf(v);
                if (slots[slot] == 0 && count < MOST_PIXELS) {
                    colours[count] = v;
                    count++;
                    slots[slot] = count;
                }
            }
        }

        int numberOf(int v) {
            return Math.max(slots[slotOf(v)] - 1, 0);
        }

        int get(int number) {
            return number >= 0 && number < count ? colours[number] : 0;
        }

        private int slotOf(int v) {
            int mixed = (v ^ v >>> 15) * 0x2C1B3C6D;
            int slot = (mixed ^ mixed >>> 12) * 0x297A2D39 >>> 19;
            for (int k = 0; k < SLOTS; k++) {
                int number = slots[slot] - 1;
                if (number < 0 || colours[number] == v) {
                    return slot;
                }
                slot = slot + 1 & SLOTS - 1;
            }
            return slot;
        }
    }

    /** A file's bytes, the TAPE's or the OUTPUT's. */
    private static final class ByteRow {
        final byte[] cells = new byte[MOST_BYTES];
        int count;

        int at(int i) {
            return i >= 0 && i < count ? cells[i] & 255 : NONE;
        }

        void add(int b) {
            if (count < MOST_BYTES) {
                cells[count] = (byte) b;
                count++;
            }
        }

        void addZeros(int many) {
            for (int k = 0; k < many; k++) {
                add(0);
            }
        }

        void addLow2(int v) {
            add(v);
            add(v >> 8);
        }

        void addLow4(int v) {
            addLow2(v);
            addLow2(v >> 16);
        }

        void addHigh4(int v) {
            add(v >> 24);
            add(v >> 16);
            add(v >> 8);
            add(v);
        }

        // No number in a text is above 4096.
        void addDecimal(int v) {
            if (v >= 1000) {
                add('0' + v / 1000);
            }
            if (v >= 100) {
                add('0' + v / 100 % 10);
            }
            if (v >= 10) {
                add('0' + v / 10 % 10);
            }
            add('0' + v % 10);
        }

        void setLow4(int i, int v) {
            if (i < 0 || i > count - 4) {
                return;
            }
            for (int k = 0; k < 4; k++) {
                cells[i + k] = (byte) (v >> 8 * k);
            }
        }

        void takeFrom(ByteRow other) {
            count = other.count;
            System.arraycopy(other.cells, 0, cells, 0, count);
        }
    }

    /** A file on its way through a reader; refuse() ends the reading by an exception. */
    private static final class Source {
        private byte[] cells;
        int size;
        int at;
        int fault;
        int faultPlace;

        Source(ByteRow file) {
            cells = file.cells;
        }

        void open(ByteRow file) {
            cells = file.cells;
            size = file.count;
            at = 0;
            fault = 0;
            faultPlace = NONE;
        }

        void refuse(int why, int where) {
            fault = why;
            faultPlace = where;
            throw new IllegalStateException("the file is refused");
        }

        /** The byte here, or NONE at the end. */
        int peek() {
            return at >= 0 && at < size ? cells[at] & 255 : NONE;
        }

        int next() {
            if (at < 0 || at >= size) {
                fault = CUT_SHORT;
                faultPlace = size;
                throw new IllegalStateException("the file is cut short");
            }
            int b = cells[at] & 255;
            at++;
            return b;
        }

        void pass(int many) {
            for (int k = 0; k < many; k++) {
                next();
            }
        }

        int low2() {
            int low = next();
            return next() << 8 | low;
        }

        int low4() {
            int low = low2();
            return low2() << 16 | low;
        }

        int high4() {
            int all = 0;
            for (int k = 0; k < 4; k++) {
                all = all << 8 | next();
            }
            return all;
        }

        void want(int value) {
            int here = at;
            if (next() != value) {
                refuse(BAD_VALUE, here);
            }
        }

        void wantLow4(int value) {
            int here = at;
            if (low4() != value) {
                refuse(BAD_VALUE, here);
            }
        }

        void wantEnd() {
            if (at < size) {
                refuse(LEFT_OVER, at);
            }
        }

        void lay(Raster to, long width, long height, int heightPlace) {
            if (isTooLarge(width, height)) {
                refuse(TOO_LARGE, heightPlace);
            }
            to.width = (int) width;
            to.height = (int) height;
        }
    }

    /** A family: its reader, which leaves what told() answers in three fields, and its writer. */
    private abstract static class Format {
        int first;
        int second;
        int third;

        abstract void decode(Source in, Raster to);

        abstract void encode(Raster from, int form, ByteRow out);
    }

    private static final class Qoi extends Format {
        private static final int MOST_RUN = 62;

        private final int[] places = new int[64];
        private int last;

        void decode(Source in, Raster to) {
            in.want('q');
            in.want('o');
            in.want('i');
            in.want('f');
            long width = readSide(in);
            int heightPlace = in.at;
            long height = readSide(in);
            in.lay(to, width, height, heightPlace);
            first = readChoice(in, 3, 4);
            second = readChoice(in, 0, 1);
            third = readChunks(in, to);
            for (int k = 0; k < 7; k++) {
                in.want(0);
            }
            in.want(1);
            in.wantEnd();
        }

        private static long readSide(Source in) {
            int here = in.at;
            long side = in.high4() & 0xFFFFFFFFL;
            if (side == 0) {
                in.refuse(BAD_VALUE, here);
            }
            return side;
        }

        private static int readChoice(Source in, int one, int other) {
            int here = in.at;
            int v = in.next();
            if (v != one && v != other) {
                in.refuse(BAD_VALUE, here);
            }
            return v;
        }

        private int readChunks(Source in, Raster to) {
            start();
            int chunks = 0;
            int before = NONE;
            int times = 1;
            int total = to.count();
            for (int done = 0; done < total; done += times) {
                int here = in.at;
                int b = in.next();
                times = b >= 192 && b < 254 ? (b & 63) + 1 : 1;
                if (times > total - done || b < 64 && b == before) {
                    in.refuse(BAD_RUN, here);
                }
                last = readPixel(in, b);
                for (int k = 0; k < times; k++) {
                    to.set(done + k, last);
                }
                keep();
                before = b;
                chunks++;
            }
            return chunks;
        }

        private int readPixel(Source in, int b) {
            if (b < 64) {
                return places[b & 63];
            }
            if (b < 128) {
                return moved((b >> 4 & 3) - 2, (b >> 2 & 3) - 2, (b & 3) - 2);
            }
            if (b < 192) {
                int c = in.next();
                int d = (b & 63) - 32;
                return moved(d + (c >> 4) - 8, d, d + (c & 15) - 8);
            }
            if (b < 254) {
                return last;
            }
            int red = in.next();
            int green = in.next();
            int blue = in.next();
            return pixelOf(red, green, blue, b == 255 ? in.next() : alphaOf(last));
        }

        private int moved(int red, int green, int blue) {
            return pixelOf(redOf(last) + red & 255, greenOf(last) + green & 255, blueOf(last) + blue & 255,
                    alphaOf(last));
        }

        private void start() {
            last = BLACK;
            Arrays.fill(places, 0);
        }

        private static int homeOf(int v) {
            return 3 * redOf(v) + 5 * greenOf(v) + 7 * blueOf(v) + 11 * alphaOf(v) & 63;
        }

        private void keep() {
            places[homeOf(last)] = last;
        }

        void encode(Raster from, int form, ByteRow out) {
            out.add('q');
            out.add('o');
            out.add('i');
            out.add('f');
            out.addHigh4(from.width);
            out.addHigh4(from.height);
            out.add(from.isOpaque() ? 3 : 4);
            out.add(0);
            writeChunks(from, out);
            out.addZeros(7);
            out.add(1);
        }

        private void writeChunks(Raster from, ByteRow out) {
            start();
            int times = 1;
            int total = from.count();
            for (int done = 0; done < total; done += times) {
                int run = runAt(from, done);
                if (run > 0) {
                    out.add(191 + run);
                } else {
                    writePixel(from.get(done), out);
                    last = from.get(done);
                }
                keep();
                times = Math.max(run, 1);
            }
        }

        private int runAt(Raster from, int start) {
            int most = Math.min(MOST_RUN, from.count() - start);
            for (int k = 0; k < most; k++) {
                if (from.get(start + k) != last) {
                    return k;
                }
            }
            return most;
        }

        private void writePixel(int v, ByteRow out) {
            if (places[homeOf(v)] == v) {
                out.add(homeOf(v));
            } else if (alphaOf(v) != alphaOf(last)) {
                out.add(255);
                out.addHigh4(v);
            } else if (!writeMove(v, out)) {
                out.add(254);
                out.add(redOf(v));
                out.add(greenOf(v));
                out.add(blueOf(v));
            }
        }

        private boolean writeMove(int v, ByteRow out) {
            int red = (byte) (redOf(v) - redOf(last));
            int green = (byte) (greenOf(v) - greenOf(last));
            int blue = (byte) (blueOf(v) - blueOf(last));
            if (isWithin(red, 2) && isWithin(green, 2) && isWithin(blue, 2)) {
                out.add(64 | red + 2 << 4 | green + 2 << 2 | blue + 2);
                return true;
            }
            int redLess = (byte) (red - green);
            int blueLess = (byte) (blue - green);
            if (isWithin(green, 32) && isWithin(redLess, 8) && isWithin(blueLess, 8)) {
                out.add(128 | green + 32);
                out.add(redLess + 8 << 4 | blueLess + 8);
                return true;
            }
            return false;
        }

        private static boolean isWithin(int v, int bound) {
            return v >= -bound && v < bound;
        }
    }

    private static final class Pnm extends Format {
        private static final int MOST_NUMBER = 1000000;
        private static final int MOST_MAXVAL = 65535;
        private static final int LINE_SIGNS = 70;

        private int numberPlace;

        void decode(Source in, Raster to) {
            in.want('P');
            readKind(in);
            readSize(in, to);
            second = 1;
            if (first != 1 && first != 4) {
                passGap(in);
                second = readNumber(in);
                askNumber(in, second, MOST_MAXVAL);
            }
            if (first > 3) {
                readOneBlank(in);
            }
            third = in.at;
            if (first == 1) {
                readSigns(in, to);
            } else if (first == 4) {
                readBits(in, to);
            } else {
                readSamples(in, to);
            }
            if (first <= 3) {
                passBlanks(in);
            }
            in.wantEnd();
        }

        private void readKind(Source in) {
            int here = in.at;
            first = in.next() - '0';
            if (first < 1 || first > 6) {
                in.refuse(BAD_VALUE, here);
            }
        }

        private void readSize(Source in, Raster to) {
            passGap(in);
            int width = readNumber(in);
            askNumber(in, width, MOST_NUMBER);
            if (width > MOST_PIXELS) {
                in.refuse(TOO_LARGE, numberPlace);
            }
            passGap(in);
            int height = readNumber(in);
            askNumber(in, height, MOST_NUMBER);
            in.lay(to, width, height, numberPlace);
        }

        private void askNumber(Source in, int number, int most) {
            if (number < 1 || number > most) {
                in.refuse(BAD_VALUE, numberPlace);
            }
        }

        private static boolean isBlank(int b) {
            return b >= 9 && b <= 13 || b == 32;
        }

        private static boolean isDigit(int b) {
            return b >= '0' && b <= '9';
        }

        private static void readOneBlank(Source in) {
            int here = in.at;
            if (!isBlank(in.next())) {
                in.refuse(BAD_VALUE, here);
            }
        }

        private static void passGap(Source in) {
            int b = in.peek();
            if (b == NONE) {
                in.refuse(CUT_SHORT, in.size);
            }
            if (!isBlank(b) && b != '#') {
                in.refuse(BAD_VALUE, in.at);
            }
            passBlanks(in);
        }

        private static void passBlanks(Source in) {
            boolean inNote = false;
            while (in.at < in.size) {
                int b = in.peek();
                if (inNote) {
                    inNote = b != 10;
                } else if (b == '#') {
                    inNote = true;
                } else if (!isBlank(b)) {
                    return;
                }
                in.at++;
            }
        }

        private int readNumber(Source in) {
            numberPlace = in.at;
            int b = in.next();
            if (!isDigit(b)) {
                in.refuse(BAD_VALUE, numberPlace);
            }
            int all = b - '0';
            while (in.at < in.size && isDigit(in.peek())) {
                all = Math.min(10 * all + in.peek() - '0', MOST_NUMBER);
                in.at++;
            }
            return all;
        }

        private static void readSigns(Source in, Raster to) {
            passGap(in);
            int total = to.count();
            for (int i = 0; i < total; i++) {
                passBlanks(in);
                int here = in.at;
                int b = in.next();
                if (b != '0' && b != '1') {
                    in.refuse(BAD_VALUE, here);
                }
                to.set(i, b == '1' ? BLACK : WHITE);
            }
        }

        private static void readBits(Source in, Raster to) {
            int i = 0;
            int bits = 0;
            for (int y = 0; y < to.height; y++) {
                for (int x = 0; x < to.width; x++) {
                    bits = (x & 7) == 0 ? in.next() : bits << 1;
                    to.set(i, (bits & 128) != 0 ? BLACK : WHITE);
                    i++;
                }
            }
        }

        private void readSamples(Source in, Raster to) {
            boolean coloured = first == 3 || first == 6;
            int total = to.count();
            for (int i = 0; i < total; i++) {
                int red = readSample(in);
                int green = coloured ? readSample(in) : red;
                int blue = coloured ? readSample(in) : red;
                to.set(i, pixelOf(red, green, blue, 255));
            }
        }

        private int readSample(Source in) {
            int v;
            int here;
            if (first <= 3) {
                passGap(in);
                v = readNumber(in);
                here = numberPlace;
            } else {
                here = in.at;
                v = in.next();
                if (second > 255) {
                    v = v << 8 | in.next();
                }
            }
            if (v > second) {
                in.refuse(NO_COLOUR, here);
            }
            return second < 1 ? 0 : (510 * v + second) / (2 * second);
        }

        void encode(Raster from, int form, ByteRow out) {
            out.add('P');
            out.add('0' + form);
            out.add(10);
            out.addDecimal(from.width);
            out.add(32);
            out.addDecimal(from.height);
            out.add(10);
            if (form == 1) {
                writeSigns(from, out);
            } else if (form == 4) {
                writeBits(from, out);
            } else {
                writeSamples(from, form, out);
            }
        }

        private static void writeSigns(Raster from, ByteRow out) {
            int i = 0;
            for (int y = 0; y < from.height; y++) {
                for (int x = 1; x <= from.width; x++) {
                    out.add(from.get(i) == BLACK ? '1' : '0');
                    i++;
                    if (x % LINE_SIGNS == 0 || x == from.width) {
                        out.add(10);
                    }
                }
            }
        }

        private static void writeBits(Raster from, ByteRow out) {
            int i = 0;
            for (int y = 0; y < from.height; y++) {
                int bits = 0;
                for (int x = 0; x < from.width; x++) {
                    if (from.get(i) == BLACK) {
                        bits |= 128 >> (x & 7);
                    }
                    i++;
                    if ((x & 7) == 7 || x == from.width - 1) {
                        out.add(bits);
                        bits = 0;
                    }
                }
            }
        }

        private static void writeSamples(Raster from, int form, ByteRow out) {
            out.addDecimal(255);
            out.add(10);
            int total = from.count();
            for (int i = 0; i < total; i++) {
                int v = from.get(i);
                if (form <= 3) {
                    writeNumbers(v, form == 3, out);
                } else {
                    writeBytes(v, form == 6, out);
                }
            }
        }

        private static void writeNumbers(int v, boolean coloured, ByteRow out) {
            out.addDecimal(redOf(v));
            if (coloured) {
                out.add(32);
                out.addDecimal(greenOf(v));
                out.add(32);
                out.addDecimal(blueOf(v));
            }
            out.add(10);
        }

        private static void writeBytes(int v, boolean coloured, ByteRow out) {
            out.add(redOf(v));
            if (coloured) {
                out.add(greenOf(v));
                out.add(blueOf(v));
            }
        }
    }

    private static final class Bmp extends Format {
        private static final int HEADER = 54;
        private static final int OFFSET_PLACE = 10;
        private static final int SIZE_PLACE = 34;
        private static final int DOTS_A_METRE = 2835;
        private static final int MOST_RUN = 255;

        private final Palette palette;
        private final int[] colours = new int[MOST_INDEXED];
        private boolean topFirst;
        private int bits;
        private int compression;
        private int used;
        private int packed;
        private int column;
        private int rowsUp;

        Bmp(Palette palette) {
            this.palette = palette;
        }

        void decode(Source in, Raster to) {
            in.want('B');
            in.want('M');
            in.wantLow4(in.size);
            in.wantLow4(0);
            int offset = in.low4();
            in.wantLow4(40);
            readSize(in, to);
            readDepth(in);
            int dataSize = in.low4();
            in.pass(8);
            readUsed(in);
            in.pass(4);
            askLayout(in, offset, dataSize);
            readColours(in);
            in.at = offset;
            if (compression == 0) {
                readRows(in, to);
            } else {
                readPairs(in, to);
            }
            in.wantEnd();
            first = bits;
            second = compression;
            third = used;
        }

        private void readSize(Source in, Raster to) {
            int here = in.at;
            int width = in.low4();
            if (width < 1) {
                in.refuse(BAD_VALUE, here);
            }
            here = in.at;
            long height = in.low4();
            if (height == 0) {
                in.refuse(BAD_VALUE, here);
            }
            topFirst = height < 0;
            in.lay(to, width, topFirst ? -height : height, here);
        }

        private void readDepth(Source in) {
            int here = in.at;
            if (in.low2() != 1) {
                in.refuse(BAD_VALUE, here);
            }
            here = in.at;
            bits = in.low2();
            if (bits != 1 && bits != 4 && bits != 8 && bits != 16 && bits != 24 && bits != 32) {
                in.refuse(BAD_VALUE, here);
            }
            here = in.at;
            compression = in.low4();
            boolean inRuns = compression == 1 && bits == 8 || compression == 2 && bits == 4;
            if (compression != 0 && (!inRuns || topFirst)) {
                in.refuse(BAD_VALUE, here);
            }
        }

        private void readUsed(Source in) {
            int here = in.at;
            used = in.low4();
            int most = bits <= 8 ? 1 << bits : 0;
            if (used < 0 || used > most) {
                in.refuse(BAD_VALUE, here);
            }
            if (used == 0) {
                used = most;
            }
        }

        private void askLayout(Source in, int offset, int dataSize) {
            if (offset < HEADER + 4 * used || offset > in.size) {
                in.refuse(BAD_VALUE, OFFSET_PLACE);
            }
            boolean untold = compression == 0 && dataSize == 0;
            if (dataSize != in.size - offset && !untold) {
                in.refuse(BAD_VALUE, SIZE_PLACE);
            }
        }

        private void readColours(Source in) {
            int many = Math.min(used, MOST_INDEXED);
            for (int i = 0; i < many; i++) {
                colours[i] = readBlueFirst(in);
                in.next();
            }
        }

        private static int readBlueFirst(Source in) {
            int blue = in.next();
            int green = in.next();
            int red = in.next();
            return pixelOf(red, green, blue, 255);
        }

        private int colourOf(Source in, int index, int here) {
            if (index < 0 || index >= used || index >= MOST_INDEXED) {
                in.refuse(NO_COLOUR, here);
                return 0;
            }
            return colours[index];
        }

        private void readRows(Source in, Raster to) {
            int rowBytes = (to.width * bits + 7) / 8;
            for (int k = 0; k < to.height; k++) {
                int start = (topFirst ? k : to.height - 1 - k) * to.width;
                for (int x = 0; x < to.width; x++) {
                    to.set(start + x, bits <= 8 ? readIndexed(in, x) : readDirect(in));
                }
                in.pass(-rowBytes & 3);
            }
        }

        private int readIndexed(Source in, int x) {
            int bitPlace = x * bits & 7;
            if (bitPlace == 0) {
                packed = in.next();
            }
            int index = packed >> 8 - bits - bitPlace & (1 << bits) - 1;
            return colourOf(in, index, in.at - 1);
        }

        private int readDirect(Source in) {
            if (bits == 16) {
                return ofSixteenBits(in.low2(), 255);
            }
            int v = readBlueFirst(in);
            if (bits == 32) {
                in.next();
            }
            return v;
        }

        private void readPairs(Source in, Raster to) {
            to.fill(colours[0]);
            column = 0;
            rowsUp = 0;
            boolean going = true;
            // A pair has two bytes, so the file ends ahead of this count.
            for (int pairs = 0; going && pairs < in.size; pairs++) {
                int here = in.at;
                int c = in.next();
                int d = in.next();
                if (c > 0) {
                    askRoom(in, to, c, here);
                    readLike(in, to, c, d);
                } else if (d > 2) {
                    askRoom(in, to, d, here);
                    readUnlike(in, to, d);
                } else if (d == 1) {
                    going = false;
                } else {
                    move(in, to, d, here);
                }
            }
        }

        private void askRoom(Source in, Raster to, int many, int here) {
            if (rowsUp >= to.height || many > to.width - column) {
                in.refuse(BAD_RUN, here);
            }
        }

        private void move(Source in, Raster to, int d, int here) {
            if (d == 0) {
                if (rowsUp >= to.height) {
                    in.refuse(BAD_RUN, here);
                }
                column = 0;
                rowsUp++;
                return;
            }
            column += in.next();
            rowsUp += in.next();
            if (column > to.width || rowsUp >= to.height) {
                in.refuse(BAD_RUN, here);
            }
        }

        private void readLike(Source in, Raster to, int many, int d) {
            for (int k = 0; k < many; k++) {
                paint(to, colourOf(in, part(d, k), in.at - 1));
            }
        }

        private void readUnlike(Source in, Raster to, int many) {
            int taken = 0;
            int b = 0;
            for (int k = 0; k < many; k++) {
                if (bits == 8 || (k & 1) == 0) {
                    b = in.next();
                    taken++;
                }
                paint(to, colourOf(in, part(b, k), in.at - 1));
            }
            in.pass(taken & 1);
        }

        private int part(int b, int k) {
            if (bits == 8) {
                return b;
            }
            return (k & 1) == 0 ? b >> 4 : b & 15;
        }

        private void paint(Raster to, int v) {
            to.set((to.height - 1 - rowsUp) * to.width + column, v);
            column++;
        }

        void encode(Raster from, int form, ByteRow out) {
            boolean indexed = form != 7;
            int many = 0;
            if (indexed) {
                palette.gather(from);
                many = palette.count;
            }
            writeHeader(from, form, many, out);
            for (int i = 0; i < many; i++) {
                writeBlueFirst(palette.get(i), out);
                out.add(0);
            }
            for (int y = from.height - 1; y >= 0; y--) {
                if (form == 9) {
                    writeRuns(from, y, out);
                } else {
                    writeRow(from, y, indexed, out);
                }
            }
            out.setLow4(2, out.count);
            out.setLow4(SIZE_PLACE, out.count - HEADER - 4 * many);
        }

        private static void writeHeader(Raster from, int form, int many, ByteRow out) {
            out.add('B');
            out.add('M');
            out.addZeros(8);
            out.addLow4(HEADER + 4 * many);
            out.addLow4(40);
            out.addLow4(from.width);
            out.addLow4(from.height);
            out.addLow2(1);
            out.addLow2(form == 7 ? 24 : 8);
            out.addLow4(form == 9 ? 1 : 0);
            out.addLow4(0);
            out.addLow4(DOTS_A_METRE);
            out.addLow4(DOTS_A_METRE);
            out.addLow4(many);
            out.addLow4(0);
        }

        private static void writeBlueFirst(int v, ByteRow out) {
            out.add(blueOf(v));
            out.add(greenOf(v));
            out.add(redOf(v));
        }

        private void writeRow(Raster from, int y, boolean indexed, ByteRow out) {
            for (int x = 0; x < from.width; x++) {
                int v = from.get(y * from.width + x);
                if (indexed) {
                    out.add(palette.numberOf(v));
                } else {
                    writeBlueFirst(v, out);
                }
            }
            out.addZeros(-from.width * (indexed ? 1 : 3) & 3);
        }

        private void writeRuns(Raster from, int y, ByteRow out) {
            int start = y * from.width;
            int times = 0;
            for (int x = 0; x < from.width; x++) {
                int v = from.get(start + x);
                times++;
                boolean ends = x == from.width - 1 || from.get(start + x + 1) != v;
                if (ends || times == MOST_RUN) {
                    out.add(times);
                    out.add(palette.numberOf(v));
                    times = 0;
                }
            }
            out.add(0);
            out.add(y == 0 ? 1 : 0);
        }
    }

    private static final class Tga extends Format {
        private static final String FOOTER_SIGNS = "TRUEVISION-XFILE.";
        private static final int FOOTER = 26;
        private static final int MOST_PACKET = 128;
        private static final int TOP_FIRST = 32;
        private static final int RIGHT_FIRST = 16;

        private final Palette palette;
        private final int[] entries = new int[MOST_INDEXED];
        private int map;
        private int type;
        private int firstEntry;
        private int many;
        private int deep;
        private int bits;
        private int flags;
        private int alphaBits;
        private boolean indexed;
        private int packets;
        private int packetLeft;
        private boolean packetLike;

        Tga(Palette palette) {
            this.palette = palette;
        }

        void decode(Source in, Raster to) {
            int noteSize = in.next();
            readTypes(in);
            readMapHeader(in);
            in.pass(4);
            readSize(in, to);
            readBits(in);
            readFlags(in);
            in.pass(noteSize);
            readEntries(in);
            readPixels(in, to);
            readFooter(in);
            first = type;
            second = bits;
            third = packets;
        }

        private void readTypes(Source in) {
            int here = in.at;
            map = in.next();
            if (map > 1) {
                in.refuse(BAD_VALUE, here);
            }
            here = in.at;
            type = in.next();
            int kind = type & 7;
            indexed = kind == 1;
            if (kind < 1 || kind > 3 || type > 11 || indexed && map == 0) {
                in.refuse(BAD_VALUE, here);
            }
        }

        private void readMapHeader(Source in) {
            int here = in.at;
            firstEntry = in.low2();
            if (map == 0 && firstEntry != 0) {
                in.refuse(BAD_VALUE, here);
            }
            here = in.at;
            many = in.low2();
            if (map == 0 ? many != 0 : many == 0) {
                in.refuse(BAD_VALUE, here);
            }
            here = in.at;
            deep = in.next();
            boolean isDepth = deep == 15 || deep == 16 || deep == 24 || deep == 32;
            if (map == 0 ? deep != 0 : !isDepth) {
                in.refuse(BAD_VALUE, here);
            }
        }

        private static void readSize(Source in, Raster to) {
            int width = readSide(in);
            int here = in.at;
            int height = readSide(in);
            in.lay(to, width, height, here);
        }

        private static int readSide(Source in) {
            int here = in.at;
            int side = in.low2();
            if (side == 0) {
                in.refuse(BAD_VALUE, here);
            }
            return side;
        }

        private void readBits(Source in) {
            int here = in.at;
            bits = in.next();
            boolean direct = (type & 7) == 2;
            boolean isDepth = direct ? bits == 16 || bits == 24 || bits == 32 : bits == 8;
            if (!isDepth) {
                in.refuse(BAD_VALUE, here);
            }
        }

        private void readFlags(Source in) {
            int here = in.at;
            flags = in.next();
            alphaBits = flags & 15;
            int depth = indexed ? deep : bits;
            int most = 0;
            if (depth == 32) {
                most = 8;
            } else if (depth == 16) {
                most = 1;
            }
            if (flags > 63 || alphaBits != 0 && alphaBits != most) {
                in.refuse(BAD_VALUE, here);
            }
        }

        private void readEntries(Source in) {
            for (int k = 0; k < many; k++) {
                int v = readColour(in, deep);
                // An index is a byte: no pixel can ask for an entry further on.
                if (firstEntry + k < MOST_INDEXED) {
                    entries[firstEntry + k] = v;
                }
            }
        }

        private void readPixels(Source in, Raster to) {
            packets = 0;
            packetLeft = 0;
            int v = 0;
            for (int k = 0; k < to.height; k++) {
                int start = ((flags & TOP_FIRST) != 0 ? k : to.height - 1 - k) * to.width;
                for (int x = 0; x < to.width; x++) {
                    boolean starts = packetLeft == 0;
                    if (starts && type > 8) {
                        readPacketHead(in, to.width - x);
                    }
                    if (starts || !packetLike) {
                        v = readPixel(in);
                    }
                    packetLeft = Math.max(packetLeft - 1, 0);
                    to.set(start + ((flags & RIGHT_FIRST) != 0 ? to.width - 1 - x : x), v);
                }
            }
        }

        private void readPacketHead(Source in, int room) {
            int here = in.at;
            int p = in.next();
            packetLike = p > 127;
            packetLeft = (p & 127) + 1;
            if (packetLeft > room) {
                in.refuse(BAD_RUN, here);
            }
            packets++;
        }

        private int readPixel(Source in) {
            if (!indexed) {
                return readColour(in, bits);
            }
            int here = in.at;
            int i = in.next();
            if (i < firstEntry || i - firstEntry >= many) {
                in.refuse(NO_COLOUR, here);
            }
            return entries[i & 255];
        }

        private int readColour(Source in, int depth) {
            int low = in.next();
            if (depth == 8) {
                return grayOf(low);
            }
            int middle = in.next();
            if (depth <= 16) {
                boolean clear = alphaBits == 1 && middle < 128;
                return ofSixteenBits(middle << 8 | low, clear ? 0 : 255);
            }
            int high = in.next();
            int alpha = depth == 32 ? in.next() : 255;
            return pixelOf(high, middle, low, alphaBits == 8 ? alpha : 255);
        }

        private static void readFooter(Source in) {
            int here = in.at;
            if (here == in.size) {
                return;
            }
            boolean isFooter = in.size - here == FOOTER;
            for (int k = 0; isFooter && k < FOOTER; k++) {
                int sign = k - 8;
                boolean inSigns = sign >= 0 && sign < FOOTER_SIGNS.length();
                isFooter = in.next() == (inSigns ? FOOTER_SIGNS.charAt(sign) : 0);
            }
            if (!isFooter) {
                in.refuse(LEFT_OVER, here);
            }
        }

        void encode(Raster from, int form, ByteRow out) {
            int kind = kindOf(form);
            boolean inPackets = (form & 1) == 1;
            int depth = from.isOpaque() ? 24 : 32;
            int colours = 0;
            if (kind == 1) {
                palette.gather(from);
                colours = palette.count;
            }
            out.add(0);
            out.add(kind == 1 ? 1 : 0);
            out.add(inPackets ? kind + 8 : kind);
            out.addLow2(0);
            out.addLow2(colours);
            out.add(kind == 1 ? depth : 0);
            out.addLow4(0);
            out.addLow2(from.width);
            out.addLow2(from.height);
            out.add(kind == 2 ? depth : 8);
            out.add(depth == 32 ? TOP_FIRST + 8 : TOP_FIRST);
            for (int i = 0; i < colours; i++) {
                writeColour(palette.get(i), depth, out);
            }
            for (int y = 0; y < from.height; y++) {
                if (inPackets) {
                    writePackets(from, y, kind, depth, out);
                } else {
                    writePixels(from, y * from.width, from.width, kind, depth, out);
                }
            }
        }

        /** 1 for pixels by index, 2 for colours, 3 for gray. */
        private static int kindOf(int form) {
            if (form >= 14) {
                return 1;
            }
            return form >= 12 ? 3 : 2;
        }

        private static void writeColour(int v, int depth, ByteRow out) {
            out.add(blueOf(v));
            out.add(greenOf(v));
            out.add(redOf(v));
            if (depth == 32) {
                out.add(alphaOf(v));
            }
        }

        private void writePixels(Raster from, int start, int times, int kind, int depth, ByteRow out) {
            for (int k = 0; k < times; k++) {
                int v = from.get(start + k);
                if (kind == 1) {
                    out.add(palette.numberOf(v));
                } else if (kind == 3) {
                    out.add(redOf(v));
                } else {
                    writeColour(v, depth, out);
                }
            }
        }

        private void writePackets(Raster from, int y, int kind, int depth, ByteRow out) {
            int start = y * from.width;
            int times = 1;
            for (int x = 0; x < from.width; x += times) {
                if (isLikeNext(from, y, x)) {
                    times = packetSize(from, y, x, true);
                    out.add(127 + times);
                    writePixels(from, start + x, 1, kind, depth, out);
                } else {
                    times = packetSize(from, y, x, false);
                    out.add(times - 1);
                    writePixels(from, start + x, times, kind, depth, out);
                }
            }
        }

        private static boolean isLikeNext(Raster from, int y, int x) {
            int i = y * from.width + x;
            return x + 1 < from.width && from.get(i) == from.get(i + 1);
        }

        private static int packetSize(Raster from, int y, int x, boolean like) {
            int most = Math.min(MOST_PACKET, from.width - x);
            for (int k = 1; k < most; k++) {
                // A like one is asked from the one before it, an unlike one from itself on.
                if (like ? !isLikeNext(from, y, x + k - 1) : isLikeNext(from, y, x + k)) {
                    return k;
                }
            }
            return most;
        }
    }

    private static final class Pcx extends Format {
        private static final int RUN_MARK = 192;
        private static final int MOST_RUN = 63;
        private static final int DOTS_AN_INCH = 72;
        private static final int TABLE_MARK = 12;

        private final Palette palette;
        private final int[] colours = new int[MOST_INDEXED];
        private int version;
        private int bits;
        private int pixelsAByte;
        private int planes;
        private int step;

        Pcx(Palette palette) {
            this.palette = palette;
        }

        void decode(Source in, Raster to) {
            in.want(10);
            readVersion(in);
            in.want(1);
            readBits(in);
            readSize(in, to);
            in.pass(4);
            readColours(in, 16);
            in.pass(1);
            readPlanes(in);
            readStep(in, to.width);
            in.pass(60);
            to.fill(0);
            for (int y = 0; y < to.height; y++) {
                readLine(in, to, y);
            }
            if (bits == 8 && planes == 1) {
                in.want(TABLE_MARK);
                readColours(in, MOST_INDEXED);
            }
            in.wantEnd();
            colour(to);
            first = bits;
            second = planes;
            third = step;
        }

        private void readVersion(Source in) {
            int here = in.at;
            version = in.next();
            if (version > 5 || version == 1) {
                in.refuse(BAD_VALUE, here);
            }
        }

        private void readBits(Source in) {
            int here = in.at;
            bits = in.next();
            if (bits != 1 && bits != 2 && bits != 4 && bits != 8) {
                in.refuse(BAD_VALUE, here);
                return;
            }
            pixelsAByte = 8 / bits;
        }

        private static void readSize(Source in, Raster to) {
            int left = in.low2();
            int top = in.low2();
            int here = in.at;
            int right = in.low2();
            if (right < left) {
                in.refuse(BAD_VALUE, here);
            }
            here = in.at;
            int bottom = in.low2();
            if (bottom < top) {
                in.refuse(BAD_VALUE, here);
            }
            in.lay(to, right - left + 1, bottom - top + 1, here);
        }

        private void readColours(Source in, int many) {
            for (int i = 0; i < many && i < MOST_INDEXED; i++) {
                int red = in.next();
                int green = in.next();
                colours[i] = pixelOf(red, green, in.next(), 255);
            }
        }

        private void readPlanes(Source in) {
            int here = in.at;
            planes = in.next();
            boolean can = planes == 1;
            if (bits == 1) {
                can = planes >= 1 && planes <= 4;
            } else if (bits == 8) {
                can = (planes == 1 || planes == 3) && version == 5;
            }
            if (!can) {
                in.refuse(BAD_VALUE, here);
            }
        }

        private void readStep(Source in, int width) {
            int here = in.at;
            step = in.low2();
            if ((step & 1) == 1 || step < (width * bits + 7) / 8) {
                in.refuse(BAD_VALUE, here);
            }
        }

        private void readLine(Source in, Raster to, int y) {
            int length = planes * step;
            int plane = 0;
            int column = 0;
            int times = 1;
            for (int done = 0; done < length; done += times) {
                int here = in.at;
                int b = in.next();
                times = Math.max(b - RUN_MARK, 1);
                if (b == RUN_MARK || times > length - done) {
                    in.refuse(BAD_RUN, here);
                }
                if (b > RUN_MARK) {
                    b = in.next();
                }
                for (int k = 0; k < times; k++) {
                    addBits(to, y, plane, column, b);
                    column++;
                    if (column == step) {
                        column = 0;
                        plane++;
                    }
                }
            }
        }

        // Until the last byte is read a pixel is its index: the colours may stand behind the lines.
        private void addBits(Raster to, int y, int plane, int column, int b) {
            int x = column * pixelsAByte;
            for (int shift = 8 - bits; shift >= 0 && x < to.width; shift -= bits) {
                int i = y * to.width + x;
                int part = b >> shift & (1 << bits) - 1;
                to.set(i, to.get(i) | part << plane * bits);
                x++;
            }
        }

        private void colour(Raster to) {
            int total = to.count();
            for (int i = 0; i < total; i++) {
                int v = to.get(i);
                if (bits == 8 && planes == 3) {
                    to.set(i, pixelOf(v & 255, v >> 8 & 255, v >> 16 & 255, 255));
                } else if (bits == 1 && planes == 1) {
                    to.set(i, v == 0 ? BLACK : WHITE);
                } else {
                    to.set(i, colours[v & 255]);
                }
            }
        }

        void encode(Raster from, int form, ByteRow out) {
            int many = form == 16 ? 3 : 1;
            int length = from.width + 1 & -2;
            if (many == 1) {
                palette.gather(from);
            }
            writeHeader(from, many, length, out);
            for (int y = 0; y < from.height; y++) {
                for (int plane = 0; plane < many; plane++) {
                    writeLine(from, y, many == 1 ? NONE : plane, length, out);
                }
            }
            if (many == 1) {
                writeTable(out);
            }
        }

        private static void writeHeader(Raster from, int many, int length, ByteRow out) {
            out.add(10);
            out.add(5);
            out.add(1);
            out.add(8);
            out.addLow4(0);
            out.addLow2(from.width - 1);
            out.addLow2(from.height - 1);
            out.addLow2(DOTS_AN_INCH);
            out.addLow2(DOTS_AN_INCH);
            out.addZeros(49);
            out.add(many);
            out.addLow2(length);
            out.add(1);
            out.addZeros(59);
        }

        private void writeLine(Raster from, int y, int plane, int length, ByteRow out) {
            int v = sampleAt(from, y, plane, 0);
            int times = 0;
            for (int x = 0; x < length; x++) {
                times++;
                int next = sampleAt(from, y, plane, x + 1);
                if (x == length - 1 || next != v || times == MOST_RUN) {
                    if (times > 1 || v >= RUN_MARK) {
                        out.add(RUN_MARK + times);
                    }
                    out.add(v);
                    times = 0;
                }
                v = next;
            }
        }

        private int sampleAt(Raster from, int y, int plane, int x) {
            if (x >= from.width) {
                return 0;
            }
            int v = from.get(y * from.width + x);
            return plane == NONE ? palette.numberOf(v) : v >>> 24 - 8 * plane & 255;
        }

        private void writeTable(ByteRow out) {
            out.add(TABLE_MARK);
            for (int i = 0; i < MOST_INDEXED; i++) {
                int v = palette.get(i);
                out.add(redOf(v));
                out.add(greenOf(v));
                out.add(blueOf(v));
            }
        }
    }
}
