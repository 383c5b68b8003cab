import java.io.IOException;
import java.nio.file.Files;
import java.nio.file.Path;
import java.util.regex.Matcher;
import java.util.regex.Pattern;

/** The rules of LANGUAGE.md that can be seen in the letters of the source; run from the checkout's root. */
public final class LanguageTest {
    private static final Check CHECK = new Check("LanguageTest");
    private static final int LONGEST_METHOD = 60, MOST_PARAMETERS = 7, MOST_CLASSES = 12;
    private static final String[] BARRED = {"throw", "throws", "try", "catch", "finally", "synchronized", "assert",
        "import", "package", "System\\.(?!arraycopy)\\w+", "Object", "record", "instanceof", "hashCode", "toString",
        "\\w+Exact", "Thread", "Random", "yield", "var", "native", "volatile", "transient", "strictfp", "protected"};

    public static void main(String[] args) throws IOException {
        String source = Files.readString(Path.of("src/main/java/RiverSuit.java"));
        CHECK.isTrue("only signs 1 to 127", source.chars().allMatch(c -> c > 0 && c < 128));
        String code = source.replaceAll("(?s)/\\*.*?\\*/", "").replaceAll("//[^\n]*", "")
                .replaceAll("\"[^\"\n]*\"", "\"\"");
        for (String word : BARRED) {
            CHECK.isTrue("no " + word, !Pattern.compile("\\b" + word + "\\b").matcher(code).find());
        }
        CHECK.isTrue("no lambda", !code.contains("->"));
        CHECK.isTrue("no method reference", !code.contains("::"));
        CHECK.isTrue("no joining by +", !Pattern.compile("\"\"\\s*\\+|\\+\\s*\"\"").matcher(code).find());
        CHECK.isTrue("no static block", !Pattern.compile("static\\s*\\{").matcher(code).find());
        CHECK.isTrue("no loop but for", !Pattern.compile("\\b(while|do)\\b").matcher(code).find());
        int classes = 0;
        for (Matcher m = Pattern.compile("\\bclass \\w+").matcher(code); m.find();) {
            classes++;
        }
        CHECK.isTrue("few classes", classes <= MOST_CLASSES);
        methods(code);
        CHECK.close();
    }

    private static void methods(String code) {
        Matcher m = Pattern.compile("(?m)^( +)[\\w\\[\\]. ]*\\b(\\w+)\\(([^()]*)\\) \\{$").matcher(code);
        int met = 0;
        while (m.find()) {
            if (m.group().matches(" *(for|if|else|switch|\\}).*")) {
                continue;
            }
            met++;
            int close = code.indexOf("\n" + m.group(1) + "}", m.end());
            long lines = code.substring(m.start(), Math.max(close, m.start())).lines().count() + 1;
            CHECK.isTrue(m.group(2) + " ends and is short", close > 0 && lines <= LONGEST_METHOD);
            CHECK.isTrue(m.group(2) + " takes few parameters", m.group(3).split(",").length <= MOST_PARAMETERS);
        }
        CHECK.isTrue("the methods were met", met > 41);
    }
}
