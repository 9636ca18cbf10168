import java.util.Arrays;

/** Files of the five families, put together by hand: what the reading tests begin with. */
final class MadeFiles {
    private MadeFiles() {
    }

    static Bytes qoi(int width, int height, int channels) {
        return new Bytes().text("qoif").high4(width, height).add(channels, 0);
    }

    /** A BMP whose n, OFFSET and SIZE are right; its colours are those of bmpColour(), the fourth byte of each 99. */
    static byte[] bmp(int width, int height, int bits, int compression, int used, int... data) {
        int colours = bits > 8 ? 0 : used == 0 ? 1 << bits : used;
        int offset = 54 + 4 * colours;
        Bytes out = new Bytes().text("BM").low4(offset + data.length, 0, offset, 40, width, height).low2(1, bits)
            .low4(compression, data.length, 5, 6, used, 7);
        for (int i = 0; i < colours; i++) {
            out.add(16 + i, 32 + 2 * i, 48 + 3 * i, 99);
        }
        return out.add(data).file();
    }

    static int bmpColour(int i) {
        return (48 + 3 * i & 255) << 24 | (32 + 2 * i & 255) << 16 | (16 + i & 255) << 8 | 255;
    }

    /** A TGA's first 18 bytes, without a MAP. */
    static Bytes tga(int type, int width, int height, int bits, int flags) {
        return new Bytes().add(0, 0, type).low2(0, 0).add(0).low2(3, 4, width, height).add(bits, flags);
    }

    /** A TGA's first 18 bytes, of one row and with a MAP. */
    static Bytes tgaMapped(int type, int from, int many, int deep, int width, int flags) {
        return new Bytes().add(0, 1, type).low2(from, many).add(deep).low2(3, 4, width, 1).add(8, flags);
    }

    /** A PCX's first 128 bytes, LEFT 5 and TOP 7; its sixteen colours are those of pcxColour(). */
    static Bytes pcx(int version, int bits, int planes, int step, int width, int height) {
        return pcxLaid(version, bits, planes, step, 5, 7, 5 + width - 1, 7 + height - 1);
    }

    /** The same with LEFT, TOP, RIGHT, BOTTOM. */
    static Bytes pcxLaid(int version, int bits, int planes, int step, int... sides) {
        Bytes out = new Bytes().add(10, version, 1, bits).low2(sides).low2(1, 2);
        for (int i = 0; i < 48; i++) {
            out.add(i);
        }
        return out.add(99, planes).low2(step).times(60, 98);
    }

    static int pcxColour(int i) {
        return 3 * i << 24 | 3 * i + 1 << 16 | 3 * i + 2 << 8 | 255;
    }

    /** Adds a 12 and the 256 colours of pcxEntry(). */
    static Bytes pcxTabled(Bytes out) {
        out.add(12);
        for (int i = 0; i < 256; i++) {
            out.add(i, 255 - i, i / 2);
        }
        return out;
    }

    static int pcxEntry(int i) {
        return i << 24 | 255 - i << 16 | i / 2 << 8 | 255;
    }

    static int gray(int v) {
        return v * 0x01010100 + 255;
    }

    static int rgba(int red, int green, int blue, int alpha) {
        return (red & 255) << 24 | (green & 255) << 16 | (blue & 255) << 8 | alpha & 255;
    }

    static int[] repeat(int many, int v) {
        int[] all = new int[many];
        Arrays.fill(all, v);
        return all;
    }

    static int[] joined(int[]... parts) {
        int[] all = new int[0];
        for (int[] part : parts) {
            int at = all.length;
            all = Arrays.copyOf(all, at + part.length);
            System.arraycopy(part, 0, all, at, part.length);
        }
        return all;
    }
}
