import java.io.IOException;
import java.nio.file.Files;
import java.nio.file.Path;
import java.util.regex.Matcher;
import java.util.regex.Pattern;

/** The rules of ../shared/LANGUAGE.md that the text of the class shows, and that calls make no objects. */
public final class LanguageTest {
    private static final String[] NEVER = {"\\bthrow\\b", "\\bthrows\\b", "\\btry\\b", "\\bcatch\\b", "\\bfinally\\b",
        "\\bsynchronized\\b", "\\bassert\\b", "->", "::", "\\bimport\\b", "\\bpackage\\b", "\\bprotected\\b", "\\bnew \\w+\\[0\\]",
        "\\bString\\[\\]", "\\bSystem\\.(?!arraycopy\\b)", "\\bMath\\.\\w+Exact\\b", "\\bdouble\\b", "\\bfloat\\b",
        "\\bThread\\b", "\\bObject\\b", "\\bvar\\b", "static \\{", "hashCode", "toString", "\\.equals\\("};

    public static void main(String[] args) throws IOException {
        String text = Files.readString(Path.of("src/main/java/StatueRelief.java"));
        String code = text.replaceAll("(?s)/\\*.*?\\*/", "").replaceAll("//[^\n]*", "").replaceAll("\"[^\"\n]*\"", "\"\"");
        for (String word : NEVER) {
            Check.so("no " + word, !Pattern.compile(word).matcher(code).find());
        }
        Check.due("public constants", count(code, "public static"), 1);
        Check.due("public methods, the constructor, the class, the constant", count(code, "\\bpublic\\b"), 41);
        Check.so("some twelve classes", count(code, "\\bclass\\b") <= 12);
        Check.due("classes inside are private and static", count(code, "\\bclass\\b"),
                count(code, "private static final class") + 1);
        Check.due("static fields are final", count(code, "\\bstatic (?!final\\b)[\\w\\[\\]]+ \\w+( =|;)"), 0);
        parameters(code);
        lengths(text);
        objects();
        Check.finish();
    }

    private static int count(String code, String what) {
        Matcher m = Pattern.compile(what).matcher(code);
        int n = 0;
        while (m.find()) {
            n++;
        }
        return n;
    }

    private static void parameters(String code) {
        Matcher m = Pattern.compile("\\w+\\(((?:[\\w\\[\\]]+ \\w+, )+[\\w\\[\\]]+ \\w+)\\) \\{").matcher(code);
        while (m.find()) {
            Check.so("seven parameters at most: " + m.group(1), m.group(1).split(",").length <= 7);
        }
    }

    /** A method's head stands 4 or 8 blanks in, and so does its last bracket. */
    private static void lengths(String text) {
        String[] lines = text.split("\n");
        for (int i = 0; i < lines.length; i++) {
            Check.so("line " + i + " is short", lines[i].length() <= 125);
            if (!lines[i].matches("( {4}| {8})\\w.*\\) \\{") || lines[i].contains(" class ")) {
                continue;
            }
            String in = lines[i].replaceAll("\\S.*", "");
            int to = i;
            while (to < lines.length && !lines[to].equals(in + "}")) {
                to++;
            }
            Check.so("line " + i + ": some sixty lines at most", to - i <= 60);
        }
    }

    private static void objects() {
        com.sun.management.ThreadMXBean bean =
                (com.sun.management.ThreadMXBean) java.lang.management.ManagementFactory.getThreadMXBean();
        StatueRelief x = new StatueRelief();
        x.man(5, 1);
        x.man(4, 6);
        x.man(9, 7);
        Check.inForce(x, "tires held;rests 2;notices unlike*2;bars if hour%3=1");
        x.image(0);
        x.image(1);
        long id = Thread.currentThread().getId();
        bean.getThreadAllocatedBytes(id);
        many(x);
        long before = bean.getThreadAllocatedBytes(id);
        many(x);
        long made = bean.getThreadAllocatedBytes(id) - before;
        Check.so("calls make no objects: " + made, made < 2000);
    }

    private static void many(StatueRelief x) {
        for (int i = 0; i < 400; i++) {
            x.feed(0x70617373, 0x20202020, 0x20202020, 0x20202020, 0x20202020);
            x.orders();
            x.feed(0x62617273, 0x20202020, 0x20202020, 0x20202020, 0x20202020);
            x.law();
            x.relieve(i % 3);
            x.pass();
            x.sneeze(i % 3);
            x.pardon(i % 3);
            x.undo();
            x.holds(1);
            x.later(60, 1);
            x.moment(1, 1);
            x.rota(5, i % 5);
            x.order(-1);
            x.chain(0, 1, -1);
            x.groups(1, -1);
            x.likest(1);
            x.plate(1, 1);
            x.take(0);
            x.few(20, 99);
            x.compare(0, 0, 1);
            x.years(i, 60);
            x.image(i % 2);
            x.back(i % 2);
            x.forget();
        }
    }
}
