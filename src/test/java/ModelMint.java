import java.util.NoSuchElementException;

/** The document's calls once more, slow and plain, to hold RasterMint's answers against. */
final class ModelMint {
    private final int[][][] shelves = new int[4][][];
    private byte[] tape = new byte[0];
    private byte[] output = null;
    private int place = -1;
    private int[] told = {-1, -1, -1, -1};

    int feed(int... five) {
        if (tape.length + 20 > 65536) {
            return -1;
        }
        tape = new Bytes().add(tape).high4(five).file();
        return tape.length;
    }

    boolean end(int n) {
        if (n < 0 || n > tape.length) {
            return false;
        }
        tape = java.util.Arrays.copyOf(tape, n);
        return true;
    }

    int again() {
        if (output == null) {
            return -1;
        }
        tape = output.clone();
        return tape.length;
    }

    int read(int family, int shelf) {
        if (shelf < 0 || shelf > 3) {
            throw new IllegalArgumentException();
        }
        if (family < 0 || family > 4) {
            throw new NoSuchElementException();
        }
        ModelReader r = ModelReader.read(family, tape);
        tape = new byte[0];
        place = r.place;
        if (r.fault == 0) {
            shelves[shelf] = r.rows;
            told = r.told;
        }
        return r.fault;
    }

    int place() {
        return place;
    }

    int told(int what) {
        return what < 0 || what > 3 ? -1 : told[what];
    }

    int write(int shelf, int form) {
        if (shelf < 0 || shelf > 3 || shelves[shelf] == null || form < 0 || form > 17) {
            return -2;
        }
        if (!ModelWriter.holds(form, shelves[shelf])) {
            return -1;
        }
        output = ModelWriter.write(form, shelves[shelf]);
        return output.length;
    }

    int byteAt(int i) {
        return output == null || i < 0 || i >= output.length ? -1 : output[i] & 255;
    }

    long bytes(int i) {
        if (byteAt(i) < 0) {
            throw new NoSuchElementException();
        }
        long all = 0;
        for (int k = 0; k < 8; k++) {
            all = all * 256 + Math.max(0, byteAt(i + k));
        }
        return all;
    }

    boolean make(int shelf, int width, int height, int v) {
        if (shelf < 0 || shelf > 3 || width < 1 || height < 1 || (long) width * height > 4096) {
            return false;
        }
        shelves[shelf] = new int[height][width];
        for (int[] row : shelves[shelf]) {
            java.util.Arrays.fill(row, v);
        }
        return true;
    }

    private int[][] at(int shelf, int x, int y) {
        if (shelf < 0 || shelf > 3 || shelves[shelf] == null) {
            throw new IllegalArgumentException();
        }
        if (y < 0 || y >= shelves[shelf].length || x < 0 || x >= shelves[shelf][0].length) {
            throw new IndexOutOfBoundsException();
        }
        return shelves[shelf];
    }

    int dot(int shelf, int x, int y, int v) {
        int old = at(shelf, x, y)[y][x];
        shelves[shelf][y][x] = v;
        return old;
    }

    int sweep(int shelf, int x, int y, int n, int v, int step) {
        int[][] rows = at(shelf, x, y);
        int done = 0;
        int value = v;
        for (int r = y; r < rows.length; r++) {
            for (int c = r == y ? x : 0; c < rows[0].length; c++) {
                if (done < n) {
                    rows[r][c] = value;
                    value += step;
                    done++;
                }
            }
        }
        return done;
    }

    int pixel(int shelf, int x, int y) {
        return at(shelf, x, y)[y][x];
    }

    int raster(int shelf, int what) {
        if (shelf < 0 || shelf > 3 || shelves[shelf] == null) {
            return -1;
        }
        int[][] rows = shelves[shelf];
        switch (what) {
            case 0: return rows[0].length;
            case 1: return rows.length;
            case 2: return ModelWriter.colours(rows).size();
            case 3: return ModelWriter.opaque(rows) ? 1 : 0;
            case 4: return ModelWriter.gray(rows) ? 1 : 0;
            case 5: return ModelWriter.plain(rows) ? 1 : 0;
            default: return -1;
        }
    }

    boolean holds(int shelf, int form) {
        return shelf >= 0 && shelf <= 3 && shelves[shelf] != null && ModelWriter.holds(form, shelves[shelf]);
    }

    boolean copy(int shelf, int to) {
        if (shelf < 0 || shelf > 3 || to < 0 || to > 3) {
            return false;
        }
        int[][] rows = shelves[shelf];
        int[][] other = rows == null ? null : new int[rows.length][];
        for (int y = 0; rows != null && y < rows.length; y++) {
            other[y] = rows[y].clone();
        }
        shelves[to] = other;
        return true;
    }

    boolean same(int a, int b) {
        return a >= 0 && a <= 3 && b >= 0 && b <= 3 && java.util.Arrays.deepEquals(shelves[a], shelves[b]);
    }

    int chain(int shelf, int forms, int n) {
        if (shelf < 0 || shelf > 3 || shelves[shelf] == null || n < 0 || n > 6) {
            return -1;
        }
        for (int k = 0; k < n; k++) {
            int form = forms >> 5 * k & 31;
            if (!ModelWriter.holds(form, shelves[shelf])) {
                return k;
            }
            output = ModelWriter.write(form, shelves[shelf]);
            ModelReader r = ModelReader.read(ModelWriter.family(form), output);
            if (r.fault != 0) {
                throw new IllegalStateException("the model can't read what it wrote by form " + form);
            }
            shelves[shelf] = r.rows;
            told = r.told;
        }
        return n;
    }
}
