import java.lang.reflect.InvocationTargetException;
import java.lang.reflect.Method;
import java.util.ArrayList;
import java.util.HashMap;
import java.util.List;
import java.util.Map;
import java.util.NoSuchElementException;

/** What the tests share: comparing answers, putting texts on the tape, a town in which all is there, and its picture. */
abstract class Check {
    interface Call { int answer(); }

    static final String FOUR = "person 5 3 10;person 7 0 4;person 40 9 25;person 42 1 25;shy 0 1;shy 2 2;like 1;";
    /** How refusals are written where answers are compared as texts. */
    static final String MISSING = "throws NoSuchElementException";
    static final String WRONG = "throws IllegalArgumentException";

    private static final Map<String, Method> FACE = new HashMap<>();
    private static int wrong;
    static String current = "";

    static {
        for (Method m : TakerTown.class.getMethods()) {
            if (m.getDeclaringClass() == TakerTown.class) FACE.put(m.getName(), m);
        }
    }

    /** The last line of a test's main method. */
    static void end(String right) {
        System.out.println(wrong == 0 ? right : wrong + " answers are wrong");
        if (wrong != 0) System.exit(1);
    }

    static void due(String what, int got, int want) {
        due(what, "" + got, "" + want);
    }

    static void due(String what, String got, String want) {
        if (!got.equals(want)) {
            wrong++;
            System.out.println(current + ": " + what + " answered " + got + ", due is " + want);
        }
    }

    static void refused(String what, Class<?> why, Call call) {
        try {
            due(what + " is not refused", call.answer(), Integer.MIN_VALUE);
        } catch (NoSuchElementException | IllegalArgumentException e) {
            due(what + " is refused by " + e.getClass(), e.getClass() == why ? 1 : 0, 1);
        }
    }

    static void none(String what, Call call) {
        refused(what, NoSuchElementException.class, call);
    }

    static void bad(String what, Call call) {
        refused(what, IllegalArgumentException.class, call);
    }

    /** The answer of a call by its name, or what it throws. */
    static String ask(TakerTown x, String name, int... args) {
        Object[] values = new Object[args.length];
        for (int i = 0; i < args.length; i++) values[i] = args[i];
        try {
            return "" + FACE.get(name).invoke(x, values);
        } catch (InvocationTargetException e) {
            return "throws " + e.getCause().getClass().getSimpleName();
        } catch (IllegalAccessException e) {
            return "is not public";
        }
    }

    /** The length of the text, which is on the tape then; blanks fill up what is fed with it. */
    static int put(TakerTown x, String text) {
        for (int i = 0; i < text.length(); i += 20) {
            int[] n = new int[5];
            for (int j = 0; j < 20; j++) n[j / 4] = n[j / 4] << 8 | (i + j < text.length() ? text.charAt(i + j) : 32);
            x.feed(n[0], n[1], n[2], n[3], n[4]);
        }
        return text.length();
    }

    static int town(TakerTown x, String text) { return x.town(put(x, text)); }

    static int law(TakerTown x, String text) { return x.law(put(x, text)); }

    static int work(TakerTown x, String text) { return x.work(put(x, text)); }

    static int words(TakerTown x, String text) { return x.words(put(x, text)); }

    static TakerTown townOf(String text) {
        TakerTown x = new TakerTown();
        if (town(x, text) < 0) due("town " + text, x.fault(), -1);
        return x;
    }

    static TakerTown four() { return townOf(FOUR); }

    /** What the law makes of nothing but its numbers. */
    static int value(TakerTown x, String text) {
        due(text, law(x, text), 1);
        return x.would(0, 0, 0, 0, 0, 0, 0, 0);
    }

    /** A town with all that a call could change by mistake, but for the tape: the tape is empty. */
    static TakerTown standing() {
        TakerTown x = four();
        law(x, "face + mood + year - own * 2 + taken % 2");
        words(x, "0 5;3 2;");
        work(x, "take 0 2 1;mood 1 4;take 1 0 3;take 0 1 1;");
        x.image();
        work(x, "year;mood 2 3;mood 0 1;take 2 3 1;take 3 3 5;burn 3;");
        x.image();
        work(x, "take 1 1 0;burn 2;take 2 2 0;mood 3 7;");
        none("a person that is not there", () -> x.can(9));
        bad("a number that is none", () -> x.told(9));
        bad("a number that is none", () -> x.told(-1));
        law(x, "1+?");
        return x;
    }

    /**
     * All that stands in an object and can be asked for but its status; it is used up by that. Of a full object it
     * takes some 360 calls, as no object is used for more than 512.
     */
    static List<String> picture(TakerTown x) {
        List<String> all = new ArrayList<>();
        note(all, x, "fault");
        note(all, x, "count", 1);
        for (int what = 0; what <= 8; what++) note(all, x, "told", what);
        int persons = x.told(0);
        for (int p = 0; p < persons; p++) {
            for (int what = 0; what <= 6; what++) note(all, x, "person", p, what);
        }
        int plates = x.told(1);
        for (int i = 0; i < plates; i++) {
            for (int what : new int[] {0, 3, 4}) note(all, x, "plate", i, what);
        }
        for (int hall = 0; hall < 6; hall++) {
            for (int what = 0; what <= 2; what++) note(all, x, "hall", hall, what);
        }
        note(all, x, "would", 5, 1, 3, 40, 0, 9, 7, 2);
        note(all, x, "would", 0, 9, 0, 7, 1, 20, 0, 5);
        for (int what = 0; what <= 3; what++) note(all, x, "unknown", what);
        for (int what = 0; what <= 1; what++) note(all, x, "hold", what);
        // What is on the tape is seen by doing it.
        note(all, x, "work", Math.min(150, x.count(1)));
        scene(all, x);
        int works = x.count(2);
        for (int i = 0; i < works; i++) {
            note(all, x, "undo");
            scene(all, x);
        }
        int images = x.count(0);
        for (int i = 0; i < images; i++) {
            note(all, x, "restore");
            scene(all, x);
            note(all, x, "undo");
            scene(all, x);
        }
        return all;
    }

    private static void scene(List<String> all, TakerTown x) {
        for (int what : new int[] {1, 2, 5, 6}) note(all, x, "told", what);
        note(all, x, "count", 2);
    }

    private static void note(List<String> all, TakerTown x, String name, int... args) {
        all.add(name + java.util.Arrays.toString(args) + " -> " + ask(x, name, args));
    }

    /** Two objects must be alike in all that their pictures show. */
    static void alike(String what, TakerTown one, TakerTown other) {
        List<String> first = picture(one);
        List<String> second = picture(other);
        due(what + ": things seen", first.size(), second.size());
        for (int i = 0; i < Math.min(first.size(), second.size()); i++) {
            due(what + ": behind it", first.get(i), second.get(i));
        }
    }
}
