import java.io.IOException;
import java.lang.reflect.Method;
import java.lang.reflect.Modifier;
import java.nio.file.Files;
import java.nio.file.Path;
import java.util.regex.Matcher;
import java.util.regex.Pattern;

/** What README.md shows is what the class answers, and every call of the face stands in it. */
public final class ReadmeTest {
    private static final Pattern SHOWN = Pattern.compile("x\\.(\\w+)\\(([^)]*)\\);\\s*// (-?\\d+|true|false)\\b");

    private ReadmeTest() {
    }

    public static void main(String[] args) throws Exception {
        String readme = Files.readString(Path.of("README.md"));
        everyCallIsNamed(readme);
        examplesHold(readme);
        helperHolds(readme);
        Check.end();
    }

    private static void everyCallIsNamed(String readme) {
        for (Method m : SkyChairs.class.getDeclaredMethods()) {
            if (Modifier.isPublic(m.getModifiers())) {
                Check.due("README.md names " + m.getName(), readme.contains("| `" + m.getName() + "("), true);
            }
        }
    }

    private static void examplesHold(String readme) throws Exception {
        SkyChairs x = null;
        int shown = 0;
        for (String line : readme.split("\n")) {
            if (line.contains("SkyChairs x = new SkyChairs();")) {
                x = new SkyChairs();
            }
            Matcher m = SHOWN.matcher(line);
            if (m.find()) {
                shown++;
                Check.due("README.md:" + line.substring(0, m.end()), x != null && answer(x, m).equals(m.group(3)), true);
            }
        }
        Check.due("README.md shows calls", shown > 10, true);
    }

    private static String answer(SkyChairs x, Matcher shown) throws Exception {
        String[] words = shown.group(2).isBlank() ? new String[0] : shown.group(2).split(",\\s*");
        for (Method m : SkyChairs.class.getDeclaredMethods()) {
            Class<?>[] types = m.getParameterTypes();
            if (m.getName().equals(shown.group(1)) && types.length == words.length) {
                Object[] given = new Object[words.length];
                for (int i = 0; i < given.length; i++) {
                    given[i] = value(types[i], words[i]);
                }
                return String.valueOf(m.invoke(x, given));
            }
        }
        return "no such call";
    }

    private static Object value(Class<?> type, String word) {
        if (type == boolean.class) {
            return Boolean.valueOf(word);
        }
        long number = Long.decode(word);
        return type == long.class ? (Object) number : (Object) (int) number;
    }

    /** The helper that README.md shows tells a text as the tests do. */
    private static void helperHolds(String readme) throws IOException {
        String source = Files.readString(Path.of("src/test/java/ReadmeTest.java"));
        String helper = source.substring(source.lastIndexOf("    static int tell("), source.lastIndexOf("\n}"));
        Check.due("README.md shows the helper as it stands here", readme.contains(helper), true);
        String text = "place a 9 2;chairs 4;come 0 2;sky 5 2;";
        SkyChairs one = new SkyChairs();
        SkyChairs other = new SkyChairs();
        Check.due("lines by the helper", tell(one, text), Check.tell(other, text));
        for (int what = 0; what < 10; what++) {
            Check.due("count(" + what + ")", one.count(what), other.count(what));
        }
    }

    // The helper of README.md, as it stands there.
    static int tell(SkyChairs x, String text) {
        int[] n = new int[(text.length() + 19) / 20 * 5];
        for (int i = 0; i < 4 * n.length; i++) {
            n[i / 4] = n[i / 4] << 8 | (i < text.length() ? text.charAt(i) : ' ');
        }
        for (int i = 0; i < n.length; i += 5) {
            x.feed(n[i], n[i + 1], n[i + 2], n[i + 3], n[i + 4]);
        }
        return x.text(text.length());
    }
}
