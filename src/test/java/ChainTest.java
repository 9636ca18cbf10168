/** Promise 19: conversions. */
public final class ChainTest {
    public static void main(String[] args) {
        eachForm();
        eachFormThatDoesNotHold();
        counts();
        wrongOnes();
        whatStays();
        Check.finish("ChainTest");
    }

    private static void eachForm() {
        int[] families = {0, 1, 1, 1, 1, 1, 1, 2, 2, 2, 3, 3, 3, 3, 3, 3, 4, 4};
        int[] firsts = {3, 1, 2, 3, 4, 5, 6, 24, 8, 8, 2, 10, 3, 11, 1, 9, 8, 8};
        int[] seconds = {0, 1, 255, 255, 1, 255, 255, 0, 0, 1, 24, 24, 8, 8, 8, 8, 3, 1};
        int[] thirds = {5, 6, 10, 10, 7, 11, 11, 0, 2, 2, 0, 3, 0, 3, 0, 3, 4, 4};
        for (int form = 0; form < 18; form++) {
            RasterMint x = new RasterMint();
            x.make(1, 3, 2, -1);
            x.sweep(1, 1, 0, 2, 255, 0);
            x.copy(1, 2);
            String name = "chain(1, " + form + ", 1)";
            Check.due(name, x.chain(1, form, 1), 1);
            Check.due(name + ": same", x.same(1, 2), true);
            Check.due(name + ": told(0)", x.told(0), families[form]);
            Check.due(name + ": told(1)", x.told(1), firsts[form]);
            Check.due(name + ": told(2)", x.told(2), seconds[form]);
            Check.due(name + ": told(3)", x.told(3), thirds[form]);
            Check.due(name + ": place", x.place(), -1);
            byte[] chained = Check.output(x);
            Check.due(name + ": write", x.write(2, form), chained.length);
            Check.due(name + ": output", java.util.Arrays.equals(Check.output(x), chained), true);
        }
    }

    /** Rasters that are not PLAIN, not GRAY, not OPAQUE, of more than 256 COLOURS. */
    private static void eachFormThatDoesNotHold() {
        int[] firsts = {0x202020FF, 0x010203FF, 0x01020300};
        String[] held = {" 0 2 3 5 6 7 8 9 10 11 12 13 14 15 16 17 ", " 0 3 6 7 8 9 10 11 14 15 16 17 ",
            " 0 10 11 14 15 "};
        for (int form = 0; form < 32; form++) {
            for (int k = 0; k < 3; k++) {
                RasterMint x = new RasterMint();
                x.make(0, 2, 2, 255);
                x.dot(0, 1, 1, firsts[k]);
                x.copy(0, 1);
                x.write(0, 0);
                byte[] before = Check.output(x);
                boolean holds = held[k].contains(" " + form + " ");
                Check.due("chain by " + form + " of kind " + k, x.chain(0, form, 1), holds ? 1 : 0);
                Check.due("chain by " + form + ": same", x.same(0, 1), true);
                if (!holds) {
                    Check.due("told stays", x.told(0), -1);
                    Check.due("the output stays", java.util.Arrays.equals(Check.output(x), before), true);
                }
            }
        }
        RasterMint x = new RasterMint();
        x.make(0, 257, 1, 0);
        x.sweep(0, 0, 0, 257, 255, 256);
        for (int form : new int[] {8, 9, 14, 15, 17, 1, 2, 4, 5, 12, 13}) {
            Check.due("257 colours by " + form, x.chain(0, form, 1), 0);
        }
        for (int form : new int[] {0, 3, 6, 7, 10, 11, 16}) {
            Check.due("257 colours by " + form, x.chain(0, form, 1), 1);
        }
    }

    private static int forms(int... forms) {
        int all = 0;
        for (int k = 0; k < forms.length; k++) {
            all |= forms[k] << 5 * k;
        }
        return all;
    }

    private static void counts() {
        RasterMint x = new RasterMint();
        x.make(0, 4, 1, 0x010203FF);
        x.copy(0, 1);
        Check.due("none of them", x.chain(0, forms(0, 0, 0, 0, 0, 0), 0), 0);
        Check.due("no output yet", x.again(), -1);
        Check.due("nothing told yet", x.told(0), -1);
        for (int n = 0; n <= 6; n++) {
            Check.due("n of them", x.chain(0, forms(0, 3, 7, 11, 15, 17), n), n);
        }
        Check.due("the last one's family", x.told(0), 4);
        Check.due("the last one's output", x.byteAt(0), 10);
        for (int n = 0; n <= 6; n++) {
            Check.due("up to the first that does not hold", x.chain(0, forms(0, 3, 7, 1, 15, 17), n), Math.min(n, 3));
        }
        Check.due("the output is the last done", x.byteAt(0), 'B');
        Check.due("the last done's family", x.told(0), 2);
        Check.due("told(1) of the last done", x.told(1), 24);
        Check.due("up to no form", x.chain(0, forms(10, 18, 0), 3), 1);
        Check.due("up to no form", x.chain(0, forms(10, 10, 31), 6), 2);
        Check.due("forms below 0", x.chain(0, -1, 6), 0);
        Check.due("the sixth is 18", x.chain(0, forms(0, 0, 0, 0, 0) | 0xE4000000, 6), 5);
        Check.due("the sixth is 17", x.chain(0, forms(0, 0, 0, 0, 0) | 0xE2000000, 6), 6);
        Check.due("the sixth is 16", x.chain(0, forms(0, 0, 0, 0, 0, 16), 6), 6);
        Check.due("bits behind the sixth", x.chain(0, forms(0, 0, 0, 0, 0, 16) | 0xC0000000, 6), 6);
        Check.due("same", x.same(0, 1), true);
    }

    private static void wrongOnes() {
        RasterMint x = new RasterMint();
        x.make(0, 1, 1, -1);
        x.write(0, 5);
        for (int n : new int[] {-1, 7, 8, Integer.MIN_VALUE, Integer.MAX_VALUE}) {
            Check.due("chain(0, 0, " + n + ")", x.chain(0, 0, n), -1);
        }
        for (int shelf : new int[] {-1, 1, 3, 4, Integer.MIN_VALUE, Integer.MAX_VALUE}) {
            Check.due("chain(" + shelf + ", 0, 1)", x.chain(shelf, 0, 1), -1);
            Check.due("chain(" + shelf + ", 0, 0)", x.chain(shelf, 0, 0), -1);
        }
        Check.due("the output stays", x.byteAt(1), '5');
        Check.due("told stays", x.told(0), -1);
    }

    private static void whatStays() {
        RasterMint x = new RasterMint();
        x.make(0, 2, 2, 0x0A0B0C0D);
        Check.tape(x, Bytes.of("P1 1 1 x"));
        x.read(1, 3);
        Check.due("place", x.place(), 7);
        Check.tape(x, Bytes.of("P2 1 1 255 7"));
        Check.due("chain", x.chain(0, forms(10, 14), 2), 2);
        Check.due("place stays", x.place(), 7);
        Check.due("the tape stays", x.end(13), false);
        Check.due("the tape stays", x.end(12), true);
        Check.due("read", x.read(1, 1), 0);
        Check.due("what was on the tape", x.pixel(1, 0, 0), 0x070707FF);
        Check.due("the other shelf stays", x.pixel(0, 1, 1), 0x0A0B0C0D);
        Check.due("told of the read", x.told(1), 2);
    }
}
