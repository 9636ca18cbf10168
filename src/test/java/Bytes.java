import java.io.ByteArrayOutputStream;

/** Puts a file together byte by byte. */
final class Bytes {
    private final ByteArrayOutputStream all = new ByteArrayOutputStream();

    static byte[] of(String text) {
        return new Bytes().text(text).file();
    }

    Bytes add(int... bytes) {
        for (int b : bytes) {
            all.write(b);
        }
        return this;
    }

    Bytes add(byte[] bytes) {
        all.write(bytes, 0, bytes.length);
        return this;
    }

    Bytes text(String text) {
        for (int i = 0; i < text.length(); i++) {
            all.write(text.charAt(i));
        }
        return this;
    }

    Bytes times(int many, int b) {
        for (int k = 0; k < many; k++) {
            all.write(b);
        }
        return this;
    }

    Bytes low2(int... values) {
        for (int v : values) {
            add(v, v >> 8);
        }
        return this;
    }

    Bytes low4(int... values) {
        for (int v : values) {
            add(v, v >> 8, v >> 16, v >> 24);
        }
        return this;
    }

    Bytes high4(int... values) {
        for (int v : values) {
            add(v >> 24, v >> 16, v >> 8, v);
        }
        return this;
    }

    byte[] file() {
        return all.toByteArray();
    }

    /** A copy of the file with other bytes from a place on. */
    static byte[] with(byte[] file, int place, int... bytes) {
        byte[] changed = file.clone();
        for (int k = 0; k < bytes.length; k++) {
            changed[place + k] = (byte) bytes[k];
        }
        return changed;
    }
}
