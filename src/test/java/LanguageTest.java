import java.io.IOException;
import java.nio.file.Files;
import java.nio.file.Path;
import java.util.HashSet;
import java.util.List;
import java.util.Set;
import java.util.regex.Matcher;
import java.util.regex.Pattern;

/** Holds the source (its path is the argument) against those rules of LANGUAGE.md that can be seen by its words. */
public final class LanguageTest {
    private static final String[] BANNED = {
        "->", "::", "\\bcatch\\b", "\\bfinally\\b", "\\bsynchronized\\b", "\\bassert\\b", "Exact\\b", "\\bdouble\\b",
        "\\bprotected\\b", "\\bvolatile\\b", "\\bnative\\b", "System\\.(?!arraycopy)", "\\bThread\\b", "\\bvar\\b",
        "\\bequals\\b", "\\bhashCode\\b", "\\btoString\\b", "String\\[\\]", "static \\{", "Random", "Math\\.random",
        "import (?!java\\.util\\.NoSuchElementException;)", "^package", "while \\(true\\)", "for \\(;;"
    };
    private static int wrong;

    public static void main(String[] args) throws IOException {
        List<String> lines = Files.readAllLines(Path.of(args[0]));
        for (int i = 0; i < lines.size(); i++) {
            String code = lines.get(i).replaceAll("//.*|/\\*\\*.*|\"[^\"]*\"", "");
            for (String ban : BANNED) check(!Pattern.compile(ban).matcher(code).find(), i, ban + " is not in the language");
            check(lines.get(i).chars().allMatch(c -> c >= 32 && c < 127), i, "a sign that is none of 32 to 126");
        }
        methods(lines);
        int classes = 0;
        for (String line : lines) if (line.matches("\\s*(public |private )?(static )?(final )?class .*")) classes++;
        check(classes <= 12, 0, classes + " classes");
        System.out.println(wrong == 0 ? "the source keeps to the language" : wrong + " places do not keep to the language");
        if (wrong != 0) System.exit(1);
    }

    private static void methods(List<String> lines) {
        Pattern head = Pattern.compile("^( {4,8})((?:public |private |static )*)[A-Za-z\\[\\]]+ (\\w+)\\((.*?)\\)?( throws .*)?( \\{)?$");
        Set<String> open = new HashSet<>();
        Set<String> inner = new HashSet<>();
        for (int i = 0; i < lines.size(); i++) {
            Matcher m = head.matcher(lines.get(i));
            if (!m.matches() || lines.get(i).contains("=") || lines.get(i).trim().startsWith("return")) continue;
            String name = m.group(3);
            if (m.group(2).contains("public")) open.add(name); else inner.add(name);
            // The face itself gives would() eight parameters.
            int parameters = m.group(4).isEmpty() ? 0 : m.group(4).split(",").length;
            check(parameters <= 7 || name.equals("would"), i, name + " has " + parameters + " parameters");
            int end = i;
            while (end < lines.size() && !lines.get(end).equals(m.group(1) + "}")) end++;
            check(end - i <= 60, i, name + " is long");
        }
        check(open.size() == 45, 0, open.size() + " public methods");
        check(inner.size() > 40, 0, inner.size() + " other methods");
        inner.retainAll(open);
        check(inner.isEmpty(), 0, "bear the name of a public one: " + inner);
    }

    private static void check(boolean right, int line, String what) {
        if (!right) {
            wrong++;
            System.out.println("line " + (line + 1) + ": " + what);
        }
    }
}
