import java.io.File;
import java.net.URL;
import java.net.URLClassLoader;
import java.nio.file.Files;
import java.nio.file.Path;
import java.util.ArrayList;
import java.util.List;
import javax.tools.ToolProvider;

/** README.md: its examples can be compiled and answer what it says, and its table has every test. */
public final class ReadmeTest {
    private static final String FENCE = "```";

    public static void main(String[] args) throws Exception {
        String text = Files.readString(Path.of("README.md"));
        List<String> examples = examples(text);
        Check.due("examples", examples.size(), 2);
        answers(examples.get(0), "n, fault, where, alike ? 1 : 0, done", 78, 0, RasterMint.NONE, 1, 2);
        answers(examples.get(1), "fault, maxval, gray, mint.raster(3, 0)", 0, 9, 0x717171FF, 3);
        everyTestIsListed(text);
        Check.finish("ReadmeTest");
    }

    private static List<String> examples(String text) {
        List<String> all = new ArrayList<>();
        String start = FENCE + "java\n";
        for (int at = text.indexOf(start); at >= 0; at = text.indexOf(start, at + 1)) {
            int from = at + start.length();
            all.add(text.substring(from, text.indexOf(FENCE, from)));
        }
        return all;
    }

    /** The example is put into a class of its own, which answers the listed values. */
    private static void answers(String example, String values, long... want) throws Exception {
        Path room = Files.createTempDirectory("readme");
        File source = room.resolve("Example.java").toFile();
        Files.writeString(source.toPath(), "public class Example { public static long[] run() {\n" + example
            + "return new long[] {" + values + "}; } }\n");
        String classes = System.getProperty("java.class.path");
        int failed = ToolProvider.getSystemJavaCompiler().run(null, null, null, "-cp", classes, "-d", room.toString(),
            source.getPath());
        Check.due("an example is compiled", failed, 0);
        if (failed == 0) {
            try (URLClassLoader loader = new URLClassLoader(new URL[] {room.toUri().toURL()})) {
                long[] got = (long[]) loader.loadClass("Example").getMethod("run").invoke(null);
                for (int k = 0; k < want.length; k++) {
                    Check.due("value " + k + " of " + values, got[k], want[k]);
                }
            }
        }
        for (File left : room.toFile().listFiles()) {
            left.delete();
        }
        room.toFile().delete();
    }

    private static void everyTestIsListed(String text) {
        String table = text.substring(text.indexOf("| test |"));
        for (String name : new File("src/test/java").list()) {
            if (name.endsWith("Test.java")) {
                String test = name.substring(0, name.length() - ".java".length());
                Check.due(test + " is listed", table.matches("(?s).*\\b" + test + "\\b.*"), true);
            }
        }
    }
}
