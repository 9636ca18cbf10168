import java.util.ArrayList;
import java.util.LinkedHashSet;
import java.util.List;

/** The forms once more: rasters as rows of pixels, runs found by grouping ahead of writing. */
final class ModelWriter {
    private ModelWriter() {
    }

    static int family(int form) {
        return new int[] {0, 1, 1, 1, 1, 1, 1, 2, 2, 2, 3, 3, 3, 3, 3, 3, 4, 4}[form];
    }

    static List<Integer> colours(int[][] rows) {
        LinkedHashSet<Integer> all = new LinkedHashSet<>();
        for (int[] row : rows) {
            for (int v : row) {
                all.add(v);
            }
        }
        return new ArrayList<>(all);
    }

    static boolean opaque(int[][] rows) {
        return colours(rows).stream().allMatch(v -> (v & 255) == 255);
    }

    static boolean gray(int[][] rows) {
        return colours(rows).stream().allMatch(v -> red(v) == green(v) && red(v) == blue(v));
    }

    static boolean plain(int[][] rows) {
        return colours(rows).stream().allMatch(v -> v == 0x000000FF || v == 0xFFFFFFFF);
    }

    static boolean holds(int form, int[][] rows) {
        String all = ",0,10,11,";
        String plain = ",1,4,";
        String grays = ",2,5,12,13,";
        String opaques = ",3,6,7,16,";
        String opaqueFew = ",8,9,17,";
        String few = ",14,15,";
        String sign = "," + form + ",";
        boolean isFew = colours(rows).size() <= 256;
        return all.contains(sign)
            || plain.contains(sign) && plain(rows)
            || grays.contains(sign) && opaque(rows) && gray(rows)
            || opaques.contains(sign) && opaque(rows)
            || opaqueFew.contains(sign) && opaque(rows) && isFew
            || few.contains(sign) && isFew;
    }

    static byte[] write(int form, int[][] rows) {
        switch (family(form)) {
            case 0: return qoi(rows);
            case 1: return pnm(form, rows);
            case 2: return bmp(form, rows);
            case 3: return tga(form, rows);
            default: return pcx(form, rows);
        }
    }

    private static int red(int v) {
        return v >> 24 & 255;
    }

    private static int green(int v) {
        return v >> 16 & 255;
    }

    private static int blue(int v) {
        return v >> 8 & 255;
    }

    /** How many values from a place on are alike, at most so many. */
    private static int like(int[] row, int from, int most) {
        int n = 1;
        while (n < most && from + n < row.length && row[from + n] == row[from]) {
            n++;
        }
        return n;
    }

    private static int signed(int v) {
        int low = Math.floorMod(v, 256);
        return low > 127 ? low - 256 : low;
    }

    private static byte[] qoi(int[][] rows) {
        int width = rows[0].length;
        Bytes out = new Bytes().text("qoif").high4(width, rows.length).add(opaque(rows) ? 3 : 4, 0);
        int[] flat = new int[width * rows.length];
        for (int i = 0; i < flat.length; i++) {
            flat[i] = rows[i / width][i % width];
        }
        int[] places = new int[64];
        int p = 255;
        int i = 0;
        while (i < flat.length) {
            int v = flat[i];
            int place = (3 * red(v) + 5 * green(v) + 7 * blue(v) + 11 * (v & 255)) % 64;
            int dr = signed(red(v) - red(p));
            int dg = signed(green(v) - green(p));
            int db = signed(blue(v) - blue(p));
            int lr = signed(dr - dg);
            int lb = signed(db - dg);
            int step = 1;
            if (v == p) {
                step = like(flat, i, 62);
                out.add(192 + step - 1);
            } else if (places[place] == v) {
                out.add(place);
            } else if ((v & 255) != (p & 255)) {
                out.add(255).high4(v);
            } else if (Math.abs(2 * dr + 1) <= 3 && Math.abs(2 * dg + 1) <= 3 && Math.abs(2 * db + 1) <= 3) {
                out.add(64 + (dr + 2) * 16 + (dg + 2) * 4 + db + 2);
            } else if (Math.abs(2 * dg + 1) <= 63 && Math.abs(2 * lr + 1) <= 15 && Math.abs(2 * lb + 1) <= 15) {
                out.add(128 + dg + 32, (lr + 8) * 16 + lb + 8);
            } else {
                out.add(254, red(v), green(v), blue(v));
            }
            places[place] = v;
            p = v;
            i += step;
        }
        return out.times(7, 0).add(1).file();
    }

    private static byte[] pnm(int k, int[][] rows) {
        Bytes out = new Bytes().text("P" + k + "\n" + rows[0].length + " " + rows.length + "\n");
        if (k != 1 && k != 4) {
            out.text("255\n");
        }
        for (int[] row : rows) {
            StringBuilder signs = new StringBuilder();
            for (int v : row) {
                signs.append(v == 255 ? '1' : '0');
                if (k == 2) {
                    out.text(red(v) + "\n");
                } else if (k == 3) {
                    out.text(red(v) + " " + green(v) + " " + blue(v) + "\n");
                } else if (k == 5) {
                    out.add(red(v));
                } else if (k == 6) {
                    out.add(red(v), green(v), blue(v));
                }
            }
            if (k == 1) {
                for (int i = 0; i < signs.length(); i += 70) {
                    out.text(signs.substring(i, Math.min(i + 70, signs.length())) + "\n");
                }
            } else if (k == 4) {
                while (signs.length() % 8 != 0) {
                    signs.append('0');
                }
                for (int i = 0; i < signs.length(); i += 8) {
                    out.add(Integer.parseInt(signs.substring(i, i + 8), 2));
                }
            }
        }
        return out.file();
    }

    private static byte[] bmp(int form, int[][] rows) {
        List<Integer> colours = form == 7 ? new ArrayList<>() : colours(rows);
        Bytes data = new Bytes();
        for (int y = rows.length - 1; y >= 0; y--) {
            int[] row = rows[y];
            if (form == 9) {
                for (int x = 0; x < row.length;) {
                    int n = like(row, x, 255);
                    data.add(n, colours.indexOf(row[x]));
                    x += n;
                }
                data.add(0, y == 0 ? 1 : 0);
                continue;
            }
            for (int v : row) {
                if (form == 7) {
                    data.add(blue(v), green(v), red(v));
                } else {
                    data.add(colours.indexOf(v));
                }
            }
            while (data.file().length % 4 != 0) {
                data.add(0);
            }
        }
        int size = data.file().length;
        int offset = 54 + 4 * colours.size();
        Bytes out = new Bytes().text("BM").low4(offset + size, 0, offset, 40, rows[0].length, rows.length)
            .low2(1, form == 7 ? 24 : 8).low4(form == 9 ? 1 : 0, size, 2835, 2835, colours.size(), 0);
        for (int v : colours) {
            out.add(blue(v), green(v), red(v), 0);
        }
        return out.add(data.file()).file();
    }

    private static void tgaPixel(Bytes out, int type, int v, boolean wide, List<Integer> colours) {
        if (type == 1) {
            out.add(colours.indexOf(v));
        } else if (type == 3) {
            out.add(red(v));
        } else {
            out.add(blue(v), green(v), red(v));
            if (wide) {
                out.add(v);
            }
        }
    }

    private static byte[] tga(int form, int[][] rows) {
        int type = new int[] {2, 2, 3, 3, 1, 1}[form - 10];
        boolean packed = form % 2 == 1;
        boolean wide = !opaque(rows);
        List<Integer> colours = colours(rows);
        boolean map = type == 1;
        Bytes out = new Bytes().add(0, map ? 1 : 0, packed ? type + 8 : type).low2(0, map ? colours.size() : 0)
            .add(map ? wide ? 32 : 24 : 0).low2(0, 0, rows[0].length, rows.length)
            .add(type != 2 ? 8 : wide ? 32 : 24, wide ? 40 : 32);
        for (int i = 0; map && i < colours.size(); i++) {
            tgaPixel(out, 2, colours.get(i), wide, colours);
        }
        for (int[] row : rows) {
            int x = 0;
            while (x < row.length) {
                if (!packed) {
                    tgaPixel(out, type, row[x], wide, colours);
                    x++;
                } else if (like(row, x, 128) > 1) {
                    int n = like(row, x, 128);
                    out.add(n + 127);
                    tgaPixel(out, type, row[x], wide, colours);
                    x += n;
                } else {
                    int to = x;
                    while (to < row.length && to - x < 128 && like(row, to, 2) == 1) {
                        to++;
                    }
                    out.add(to - x - 1);
                    for (; x < to; x++) {
                        tgaPixel(out, type, row[x], wide, colours);
                    }
                }
            }
        }
        return out.file();
    }

    private static byte[] pcx(int form, int[][] rows) {
        int width = rows[0].length;
        int step = width % 2 == 0 ? width : width + 1;
        List<Integer> colours = form == 17 ? colours(rows) : new ArrayList<>();
        Bytes out = new Bytes().add(10, 5, 1, 8).low2(0, 0, width - 1, rows.length - 1, 72, 72).times(48, 0)
            .add(0, form == 16 ? 3 : 1).low2(step).add(1).times(59, 0);
        for (int[] row : rows) {
            for (int plane = 0; plane < (form == 16 ? 3 : 1); plane++) {
                int[] line = new int[step];
                for (int x = 0; x < width; x++) {
                    int[] parts = {red(row[x]), green(row[x]), blue(row[x])};
                    line[x] = form == 16 ? parts[plane] : colours.indexOf(row[x]);
                }
                for (int x = 0; x < step;) {
                    int n = like(line, x, 63);
                    if (n == 1 && line[x] < 192) {
                        out.add(line[x]);
                    } else {
                        out.add(192 + n, line[x]);
                    }
                    x += n;
                }
            }
        }
        if (form == 17) {
            out.add(12);
            for (int i = 0; i < 256; i++) {
                int v = i < colours.size() ? colours.get(i) : 0;
                out.add(red(v), green(v), blue(v));
            }
        }
        return out.file();
    }
}
