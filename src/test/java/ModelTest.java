import java.lang.reflect.InvocationTargetException;
import java.lang.reflect.Method;
import java.lang.reflect.Modifier;
import java.util.ArrayList;
import java.util.Comparator;
import java.util.HashMap;
import java.util.List;
import java.util.Map;
import java.util.Random;

/** Random runs of calls on TakerTown and on Model: every answer and every refusal must be the same. */
public final class ModelTest {
    private static final int RUNS = 600;
    private static final int CALLS = 512;
    private static final String LETTERS = "person shy like take mood burn year again face 0123456789;[](),+-*/%";

    private final Random random;
    private final TakerTown town = new TakerTown();
    private final Model model = new Model();
    private final List<String> log = new ArrayList<>();
    private final Map<String, Integer> answers;
    private final int run;
    private int calls;
    private int persons;
    private boolean right = true;

    private ModelTest(int run, Map<String, Integer> answers) {
        this.run = run;
        this.answers = answers;
        random = new Random(run);
    }

    public static void main(String[] args) throws Exception {
        Map<String, Integer> answers = new HashMap<>();
        int wrong = 0;
        for (int run = 0; run < RUNS && wrong < 5; run++) {
            if (!new ModelTest(run, answers).go()) wrong++;
        }
        for (Method m : face()) {
            // A run that never gets an answer from a call, or only one answer, tests nothing.
            if (answers.getOrDefault(m.getName(), 0) < 100) {
                System.out.println(m.getName() + " was answered too seldom: " + answers.get(m.getName()));
                wrong++;
            }
        }
        if (args.length > 1) System.out.println(answers);
        System.out.println(wrong == 0 ? "class and model agree" : "class and model differ");
        if (wrong != 0) System.exit(1);
    }

    private static List<Method> face() {
        List<Method> list = new ArrayList<>();
        for (Method m : TakerTown.class.getDeclaredMethods()) {
            if (Modifier.isPublic(m.getModifiers())) list.add(m);
        }
        list.sort(Comparator.comparing(Method::getName));
        return list;
    }

    private boolean go() throws Exception {
        List<Method> face = face();
        if (random.nextInt(10) > 0) text("town", townText());
        while (calls < CALLS && right) {
            int kind = random.nextInt(100);
            if (kind < 1) text("town", townText());
            else if (kind < 4) text("law", lawText(0));
            else if (kind < 9) text("work", workText(0));
            else if (kind < 12) text("words", wordsText());
            else ask(face.get(random.nextInt(face.size())));
        }
        if (!right) {
            System.out.println("run " + run + ":");
            for (String line : log) System.out.println("  " + line);
        }
        return right;
    }

    private void text(String name, String whole) throws Exception {
        String text = random.nextInt(6) == 0 ? spoil(whole) : whole;
        if (random.nextInt(20) > 0 && call("count", 1) > 0) call("words", 0);
        for (int i = 0; i < text.length() && right; i += 20) {
            int[] numbers = new int[5];
            for (int j = 0; j < 20; j++) {
                int c = i + j < text.length() ? text.charAt(i + j) : 0;
                numbers[j / 4] = numbers[j / 4] << 8 | c & 255;
            }
            call("feed", numbers);
        }
        int before = log.size();
        int answer = call(name, text.length() + (random.nextInt(30) == 0 ? random.nextInt(40) - 20 : 0));
        log.set(before, log.get(before) + "  " + text);
        if (name.equals("town") && answer >= 0) persons = answer;
        call("fault");
    }

    private void ask(Method m) throws Exception {
        int[] args = new int[m.getParameterCount()];
        String name = m.getName();
        if (name.equals("town")) {
            call("town", -1 - random.nextInt(3));
            return;
        }
        for (int i = 0; i < args.length; i++) args[i] = argument(name, i);
        call(name, args);
    }

    private int argument(String name, int i) {
        switch (name) {
            case "feed": return random.nextInt();
            case "law": case "work": case "words": return random.nextInt(4) == 0 ? 0 : random.nextInt(200) - 20;
            case "unlike": case "made": case "common": return near(0, 63);
            case "who": return i == 0 ? near(0, 63) : person();
            case "fewest": case "nobody": return bits();
            case "cheapest": return i == 0 ? bits() : near(0, 1);
            case "ring": return i == 0 ? near(2, 5) : near(0, 1);
            case "can": case "paper": case "where": case "twins": case "chain": case "moodFor": return person();
            case "lost": return near(0, 5);
            case "person": return i == 0 ? person() : near(0, 6);
            case "looks": case "faces": return i == 0 ? person() : near(0, 2);
            case "plate": return i == 0 ? near(0, random.nextInt(40)) : near(0, 5);
            case "hall": return i == 0 ? near(0, 5) : near(0, 3);
            case "shown": return i == 2 ? near(0, 5) : person();
            case "would": return near(0, new int[] {63, 9, 9, 63, 1, 200, 999, 5}[i]);
            case "bids": return near(0, new int[] {9, 40, 40, 2}[i]);
            case "share": return i == 0 ? person() : i == 1 ? bits() : near(0, random.nextBoolean() ? 80 : 400);
            case "years": return i == 0 ? random.nextInt() : i == 1 ? near(1, 96) : near(0, i == 2 ? 16 : 3);
            case "span": return i == 0 ? random.nextInt() : i == 1 ? near(1, 20) : i == 2 ? near(1, 96)
                : i == 3 ? near(0, 16) : i == 4 ? near(0, 2) : person();
            default: return near(0, 8);
        }
    }

    private int near(int from, int to) {
        int kind = random.nextInt(60);
        return kind == 0 ? from - 1 : kind == 1 ? to + 1 : kind == 2 ? random.nextInt() : kind < 8 ? from
            : kind < 14 ? to : from + random.nextInt(to - from + 1);
    }

    private int person() { return near(0, Math.max(0, persons - 1)); }

    private int bits() { return near(0, (1 << persons) - 1); }

    private int call(String name, int... args) throws Exception {
        if (calls >= CALLS || !right) {
            log.add("left out");
            return -1;
        }
        calls++;
        String one = answer(town, name, args);
        String two = answer(model, name, args);
        StringBuilder line = new StringBuilder(name).append('(');
        for (int i = 0; i < args.length; i++) line.append(i == 0 ? "" : ", ").append(args[i]);
        log.add(line + ") -> " + one + (one.equals(two) ? "" : ", due is " + two));
        right = one.equals(two);
        boolean number = !one.startsWith("throws");
        if (number) answers.merge(name, 1, Integer::sum);
        return number ? Integer.parseInt(one) : -1;
    }

    private static String answer(Object on, String name, int[] args) throws Exception {
        Class<?>[] types = new Class<?>[args.length];
        Object[] values = new Object[args.length];
        for (int i = 0; i < args.length; i++) {
            types[i] = int.class;
            values[i] = args[i];
        }
        try {
            return "" + on.getClass().getMethod(name, types).invoke(on, values);
        } catch (InvocationTargetException e) {
            return "throws " + e.getCause().getClass().getName();
        }
    }

    // ---- texts that are mostly right

    private String blank() { return random.nextInt(12) == 0 ? "  ".substring(random.nextInt(2)) : ""; }

    private String number(int most) {
        int kind = random.nextInt(150);
        String digits = kind == 0 ? "" + (most + 1) : kind == 1 ? "00000000000" + most : kind == 2 ? "4294967296"
            : "" + (kind < 8 ? most : random.nextInt(most + 1));
        return " " + digits;
    }

    private String townText() {
        StringBuilder s = new StringBuilder();
        int people = random.nextInt(10) == 0 ? random.nextInt(3) : random.nextInt(40) == 0 ? 9 : 2 + random.nextInt(7);
        int few = random.nextBoolean() ? 63 : 15;
        for (int p = 0; p < people; p++) {
            s.append(blank()).append("person").append(number(few)).append(number(9)).append(number(40)).append(blank()).append(';');
            if (random.nextInt(4) == 0) s.append("shy").append(number(p)).append(number(p)).append(';');
        }
        int more = random.nextInt(30) == 0 ? 52 + random.nextInt(10) : random.nextInt(4);
        for (int i = 0; i < more; i++) s.append("like").append(number(random.nextInt(4))).append(";");
        if (random.nextInt(3) == 0 && people > 0) s.append("shy").append(number(people - 1)).append(number(people - 1)).append(" ; ");
        return s.length() > 600 ? s.substring(0, 600) : s.toString();
    }

    private String lawText(int open) {
        String s = open == 0 && random.nextInt(2) == 0 ? softLaw() : sum(open);
        return s.length() > 150 ? "face" : s;
    }

    /** Laws by which faces often stay near: else nobody could take anybody as himself. */
    private String softLaw() {
        String[] laws = {"sitter", "sitter + mood", "face + mood - own", "least[sitter,face]", "most[sitter,face]",
            "sitter + taken % 3", "sitter - year % 2 + hall", "(sitter + face) / 2", "sitter+temper%3-1",
            "sitter * (1 - mood % 2) + face * (mood % 2)", "face*face*face*face*face*face*7/3", "0-temper/(mood-3)%5",
            "face % (mood - 4) + 9", "999*999*999*999*face/(0-1)"};
        return laws[random.nextInt(laws.length)];
    }

    private String sum(int open) {
        StringBuilder s = new StringBuilder(product(open));
        while (random.nextInt(3) == 0) s.append(blank()).append(random.nextBoolean() ? '+' : '-').append(product(open));
        return s.toString();
    }

    private String product(int open) {
        StringBuilder s = new StringBuilder(unit(open));
        while (random.nextInt(4) == 0) s.append(blank()).append("*/%".charAt(random.nextInt(3))).append(unit(open));
        return s.toString();
    }

    private String unit(int open) {
        int kind = random.nextInt(open > 6 ? 9 : 13);
        String[] words = {"face", "temper", "mood", "sitter", "own", "year", "taken", "hall"};
        if (kind == 0) return number(999);
        if (kind < 9) return blank() + words[kind - 1];
        if (kind < 11) return blank() + "(" + sum(open + 1) + blank() + ")";
        return (kind == 11 ? " least" : " most") + blank() + "[" + sum(open + 1) + blank() + "," + sum(open + 1) + "]";
    }

    private String workText(int open) {
        StringBuilder s = new StringBuilder();
        int many = random.nextInt(open == 0 ? 9 : 4);
        for (int i = 0; i < many; i++) {
            String step = blank() + step(open) + blank() + ";";
            if (s.length() + step.length() < 140 - 20 * open) s.append(step);
        }
        return s.toString();
    }

    private String step(int open) {
        int all = Math.max(0, persons - 1);
        int kind = random.nextInt(12);
        if (kind < 6) return "take" + number(all) + number(all) + number(5);
        if (kind < 8) return "mood" + number(all) + number(9);
        if (kind == 8) return "burn" + number(5);
        if (kind == 9) return "year";
        if (random.nextInt(40) == 0) return deepAgain();
        return open > 4 ? "year" : "again" + number(30) + blank() + "[" + workText(open + 1) + blank() + "]";
    }

    private String deepAgain() {
        int deep = 5 + random.nextInt(3);
        return "again 2[".repeat(deep) + "year;" + "];".repeat(deep - 1) + "]";
    }

    private String wordsText() {
        StringBuilder s = new StringBuilder();
        for (int p = 0; p < persons; p++) {
            if (random.nextInt(3) == 0) {
                s.append(blank()).append(random.nextInt(30) == 0 ? random.nextInt(9) : p).append(number(6)).append(blank()).append(';');
            }
        }
        return s.length() > 60 ? s.substring(0, 60) : s.toString();
    }

    private String spoil(String whole) {
        StringBuilder s = new StringBuilder(whole);
        int at = random.nextInt(s.length() + 1);
        char c = random.nextInt(8) == 0 ? (char) random.nextInt(256) : LETTERS.charAt(random.nextInt(LETTERS.length()));
        switch (random.nextInt(4)) {
            case 0: s.setLength(at); break;
            case 1: s.insert(at, c); break;
            case 2: if (at < s.length()) s.setCharAt(at, c); break;
            default: if (at < s.length()) s.deleteCharAt(at); break;
        }
        return s.toString();
    }
}
