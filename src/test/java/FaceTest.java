import java.lang.reflect.Constructor;
import java.lang.reflect.Field;
import java.lang.reflect.Member;
import java.lang.reflect.Method;
import java.lang.reflect.Modifier;
import java.util.Arrays;
import java.util.Set;
import java.util.TreeSet;

/** The public face is the document's, and nothing more can be seen from outside. */
public final class FaceTest {
    private static final String[] FACE = {
        "int feed(int,int,int,int,int)",
        "boolean end(int)",
        "int again()",
        "int read(int,int) throws java.lang.IllegalArgumentException,java.util.NoSuchElementException",
        "int place()",
        "int told(int)",
        "int write(int,int)",
        "int byteAt(int)",
        "long bytes(int) throws java.util.NoSuchElementException",
        "boolean make(int,int,int,int)",
        "int dot(int,int,int,int) throws java.lang.IllegalArgumentException,java.lang.IndexOutOfBoundsException",
        "int sweep(int,int,int,int,int,int) throws java.lang.IllegalArgumentException,"
            + "java.lang.IndexOutOfBoundsException",
        "int pixel(int,int,int) throws java.lang.IllegalArgumentException,java.lang.IndexOutOfBoundsException",
        "int raster(int,int)",
        "boolean holds(int,int)",
        "boolean copy(int,int)",
        "boolean same(int,int)",
        "int chain(int,int,int)",
    };

    public static void main(String[] args) {
        Set<String> got = new TreeSet<>();
        Set<String> names = new TreeSet<>();
        for (Method m : RasterMint.class.getDeclaredMethods()) {
            if (!Modifier.isPrivate(m.getModifiers())) {
                got.add(m.toGenericString().replace("public ", "").replace("RasterMint.", ""));
                names.add(m.getName());
            }
        }
        for (Method m : RasterMint.class.getDeclaredMethods()) {
            if (Modifier.isPrivate(m.getModifiers())) {
                Check.due("a private method is called " + m.getName(), names.contains(m.getName()), false);
            }
        }
        Set<String> want = new TreeSet<>(Arrays.asList(FACE));
        if (!got.equals(want)) {
            Check.fail("the methods are " + got + ", due is " + want);
        }
        for (Field f : RasterMint.class.getDeclaredFields()) {
            boolean seen = !Modifier.isPrivate(f.getModifiers());
            Check.due("field " + f.getName() + " is seen", seen, f.getName().equals("NONE"));
            Check.due("field " + f.getName() + " is final if it is static",
                !Modifier.isStatic(f.getModifiers()) || Modifier.isFinal(f.getModifiers()), true);
        }
        Constructor<?>[] made = RasterMint.class.getDeclaredConstructors();
        Check.due("constructors", made.length, 1);
        Check.due("constructor is public", isPublic(made[0]), true);
        Check.due("constructor's parameters", made[0].getParameterCount(), 0);
        Check.due("class modifiers", RasterMint.class.getModifiers(), Modifier.PUBLIC | Modifier.FINAL);
        Check.due("NONE", RasterMint.NONE, -1);
        Check.finish("FaceTest");
    }

    private static boolean isPublic(Member m) {
        return Modifier.isPublic(m.getModifiers());
    }
}
