import java.io.IOException;
import java.nio.file.Files;
import java.nio.file.Path;
import java.util.regex.Matcher;
import java.util.regex.Pattern;

/** Those rules of LANGUAGE.md that can be seen in the program's words. Run from the project's folder. */
public final class LanguageTest {
    private static final Path SOURCE = Path.of("src/main/java/UpWithSheaf.java");
    private static final String[] BARRED = {
        "package", "import", "throw", "throws", "try", "catch", "finally", "synchronized", "assert", "native", "volatile",
        "transient", "strictfp", "protected", "record", "yield", "var", "Exception", "Error", "Object", "Thread", "Runtime",
        "Random", "hashCode", "toString", "equals", "getClass", "java"
    };
    private static final String[] BARRED_SIGNS = {"->", "::", "@", "Exact", "static\\s*\\{", "System\\.(?!arraycopy\\b)"};
    private static final int LONGEST_METHOD = 60;
    private static final Checks CHECKS = new Checks();

    private LanguageTest() { }

    public static void main(String[] args) throws IOException {
        String code = bare(Files.readString(SOURCE));
        for (String word : BARRED) none("\\b" + word + "\\b", code);
        for (String sign : BARRED_SIGNS) none(sign, code);
        none("[^\\x00-\\x7F]", code);
        newInConstructorsAlone(code);
        methodsAreShort(code);
        CHECKS.finish("LanguageTest");
    }

    /** The code less its comments and what stands in quotes. */
    private static String bare(String source) {
        String noComments = source.replaceAll("(?s)/\\*.*?\\*/", "").replaceAll("//[^\n]*", "");
        return noComments.replaceAll("'(\\\\.|[^'])'", "0").replaceAll("\"(\\\\.|[^\"])*\"", "0");
    }

    private static void none(String pattern, String code) {
        Matcher m = Pattern.compile(pattern).matcher(code);
        CHECKS.due("uses of " + pattern, m.results().count(), 0);
    }

    /** No call makes anything: the room holds what the constructors made, whatever is called. */
    private static void newInConstructorsAlone(String code) {
        Matcher method = Pattern.compile("\n( +)(?:public |private |static )*(?:int|long|boolean|void|[A-Z]\\w*)(?:\\[\\])* \\w+\\([^)]*\\) \\{(.*?)\n\\1\\}",
            Pattern.DOTALL).matcher(code);
        int methods = 0;
        while (method.find()) {
            methods++;
            CHECKS.due("new in " + method.group().trim().split("\n")[0], method.group(2).contains("new ") ? 1 : 0, 0);
        }
        CHECKS.due("methods were seen", methods > 60 ? 1 : 0, 1);
    }

    private static void methodsAreShort(String code) {
        Matcher method = Pattern.compile("\n( +)[\\w\\[\\] ]+\\([^)]*\\) \\{(.*?)\n\\1\\}", Pattern.DOTALL).matcher(code);
        while (method.find()) {
            long lines = method.group().lines().count();
            CHECKS.due("short is " + method.group().trim().split("\n")[0], lines <= LONGEST_METHOD ? 1 : 0, 1);
        }
    }
}
