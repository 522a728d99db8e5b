import java.util.ArrayList;
import java.util.List;

/**
 * For each number that a call is given: the last one that is taken and the first one that is refused, on both sides;
 * what is thrown, what is counted of it, and that nothing else has changed. What is answered changes nothing either.
 */
public final class RefusalsTest extends Check {
    /** What a call is given in one place: from the least to the most, refused else, by what. */
    record Given(int least, int most, String why) {
        List<Integer> wrongOnes() {
            List<Integer> list = new ArrayList<>();
            if (least > Integer.MIN_VALUE) {
                list.add(least - 1);
                list.add(Integer.MIN_VALUE);
            }
            if (most < Integer.MAX_VALUE) {
                list.add(most + 1);
                list.add(Integer.MAX_VALUE);
            }
            return list;
        }

        boolean takesAny() { return least <= most; }
    }

    record Question(String name, Given... given) {
        int[] least() {
            int[] args = new int[given.length];
            for (int i = 0; i < args.length; i++) args[i] = given[i].least();
            return args;
        }

        boolean takesAny() {
            for (Given g : given) if (!g.takesAny()) return false;
            return true;
        }
    }

    interface Maker { TakerTown make(); }

    public static void main(String[] args) {
        current = "a town in which all is there";
        all(RefusalsTest::standingWithTape, 4, 4);
        current = "a full town";
        all(RefusalsTest::full, 8, 40);
        current = "a new object";
        all(TakerTown::new, 0, 0);
        current = "numbers of bytes";
        bytes();
        current = "what is answered is not refused";
        answered();
        current = "status and count";
        statusAndCount();
        end("all that is refused is refused, and counted, and changes nothing");
    }

    private static TakerTown standingWithTape() {
        TakerTown x = standing();
        put(x, "take 0 0 4;mood 1 1;");
        return x;
    }

    /** 8 persons, 40 plates, 16 works to undo, 3 images, 600 bytes on the tape, a law and words as long as can be. */
    private static TakerTown full() {
        TakerTown x = townOf("person 63 9 40;".repeat(8) + "shy 7 7;".repeat(52) + " ".repeat(64));
        law(x, "face" + " + mood - hall".repeat(10) + "-taken");
        words(x, "0 6;1 6;2 6;3 6;4 6;5 6;6 6;7 " + "0".repeat(28) + "6;");
        x.image();
        for (int i = 0; i < 14; i++) x.work(0);
        x.image();
        work(x, "again 30[take 7 0 5;mood 7 9;take 6 7 0;];year;");
        x.image();
        work(x, "again 30[take 5 5 5;mood 7 9;year;];mood 0 1;");
        for (int i = 0; i < 30; i++) x.feed(0x79656172, 0x3b202020, 0x20202020, 0x20202020, 0x20202020);
        return x;
    }

    private static List<Question> questions(int persons, int plates) {
        Given person = new Given(0, persons - 1, MISSING);
        Given plate = new Given(0, plates - 1, MISSING);
        Given hall = new Given(0, 5, MISSING);
        Given face = to(63);
        Given bits = to((1 << persons) - 1);
        Given seed = new Given(Integer.MIN_VALUE, Integer.MAX_VALUE, WRONG);
        Given takes = new Given(1, 96, WRONG);
        return List.of(
            new Question("told", to(8)), new Question("person", person, to(6)), new Question("plate", plate, to(5)),
            new Question("hall", hall, to(3)), new Question("shown", person, person, hall),
            new Question("would", face, to(9), to(9), face, to(1), to(200), to(999), to(5)),
            new Question("unlike", face, face), new Question("had"), new Question("mistaken"),
            new Question("can", person), new Question("fewest", bits), new Question("nobody", bits),
            new Question("ring", new Given(2, 5, WRONG), to(1)), new Question("who", face, person),
            new Question("made", face), new Question("unknown", to(3)), new Question("hold", to(1)),
            new Question("papers"), new Question("paper", person), new Question("bids", to(9), to(40), to(40), to(2)),
            new Question("share", person, bits, to(400)), new Question("busiest", to(1)), new Question("unseen"),
            new Question("where", person), new Question("twins", person), new Question("chain", person, person),
            new Question("looks", person, to(2)), new Question("cheapest", bits, to(1)), new Question("common", face),
            new Question("moodFor", person, person), new Question("lost", hall), new Question("faces", person, to(2)),
            new Question("years", seed, takes, to(16), to(3)),
            new Question("span", seed, new Given(1, 20, WRONG), takes, to(16), to(2), new Given(0, persons - 1, WRONG)),
            new Question("fault"));
    }

    private static Given to(int most) { return new Given(0, most, WRONG); }

    private static void all(Maker maker, int persons, int plates) {
        List<String> untouched = picture(maker.make());
        for (Question q : questions(persons, plates)) {
            if (q.takesAny()) taken(maker, untouched, q);
            for (int i = 0; i < q.given().length; i++) {
                for (int wrong : q.given()[i].wrongOnes()) {
                    int[] args = q.least();
                    args[i] = wrong;
                    refuse(maker, untouched, q, args);
                    for (int j = 0; j < i; j++) {
                        List<Integer> others = q.given()[j].wrongOnes();
                        int[] two = args.clone();
                        if (!others.isEmpty()) two[j] = others.get(0);
                        refuse(maker, untouched, q, two);
                    }
                }
            }
        }
    }

    /** The least and the most of each are taken. */
    private static void taken(Maker maker, List<String> untouched, Question q) {
        for (int i = 0; i <= q.given().length; i++) {
            int[] args = q.least();
            if (i < args.length) args[i] = q.given()[i].most();
            TakerTown x = maker.make();
            String counted = counted(x);
            String answer = ask(x, q.name(), args);
            String call = q.name() + java.util.Arrays.toString(args);
            due(call + " is answered " + answer, answer.startsWith("throws") ? 1 : 0, 0);
            due(call + ", asked again", ask(x, q.name(), args), answer);
            due(call + ": refusals", counted(x), counted);
            same(call, picture(x), untouched);
        }
    }

    private static void refuse(Maker maker, List<String> untouched, Question q, int[] args) {
        String why = null;
        for (int i = 0; i < args.length; i++) {
            Given g = q.given()[i];
            // What is not there comes ahead of other reasons.
            if ((args[i] < g.least() || args[i] > g.most()) && !MISSING.equals(why)) why = g.why();
        }
        String call = q.name() + java.util.Arrays.toString(args);
        TakerTown x = maker.make();
        int missing = x.status(0);
        int wrong = x.status(1);
        due(call, ask(x, q.name(), args), why);
        due(call + ": status 0", x.status(0), missing + (MISSING.equals(why) ? 1 : 0));
        due(call + ": status 1", x.status(1), wrong + (WRONG.equals(why) ? 1 : 0));
        same(call, picture(x), untouched);
    }

    private static String counted(TakerTown x) { return x.status(0) + " and " + x.status(1); }

    private static void same(String call, List<String> got, List<String> want) {
        due(call + ": what is seen behind it", got.size(), want.size());
        for (int i = 0; i < Math.min(got.size(), want.size()); i++) due(call + ": behind it", got.get(i), want.get(i));
    }

    /** n is 0 to the tape's bytes and no more than the text may have; else the tape stays, with all else. */
    private static void bytes() {
        bytesRefused("town", "take 0 0 4;mood 1 1;", 21);
        bytesRefused("law", "take 0 0 4;mood 1 1;", 21);
        bytesRefused("work", "take 0 0 4;mood 1 1;", 21);
        bytesRefused("words", "take 0 0 4;mood 1 1;", 21);
        String long160 = "take 0 0 4;mood 1 1;" + " ".repeat(140);
        bytesRefused("law", long160, 151);
        bytesRefused("work", long160, 151);
        bytesRefused("words", long160, 61);
        String full = "take 0 0 4;mood 1 1;" + " ".repeat(580);
        bytesRefused("town", full, 601);
        bytesRefused("law", full, 600);
        bytesRefused("work", full, 600);
        bytesRefused("words", full, 600);
        for (String name : new String[] {"town", "law", "work", "words"}) {
            TakerTown x = new TakerTown();
            due(name + "(1) of an empty tape", ask(x, name, 1), WRONG);
            due(name + "(-1) of an empty tape", ask(x, name, -1), WRONG);
            due("counted", x.status(1), 2);
            due(name + "(0) of an empty tape", ask(x, name, 0), name.equals("law") ? "-9" : "0");
            due("not counted", x.status(1), 2);
            due("nothing is missing", x.status(0), 0);
        }
    }

    private static void bytesRefused(String name, String tape, int first) {
        for (int n : new int[] {-1, first, Integer.MIN_VALUE, Integer.MAX_VALUE}) {
            TakerTown x = standing();
            put(x, tape);
            due(name + "(" + n + ")", ask(x, name, n), WRONG);
            due(name + "(" + n + "): status 1", x.status(1), 3);
            due(name + "(" + n + "): status 0", x.status(0), 1);
            TakerTown untouched = standing();
            put(untouched, tape);
            alike(name + "(" + n + ")", x, untouched);
        }
        TakerTown x = standing();
        put(x, tape);
        due(name + " of one byte less", ask(x, name, first - 1).equals(WRONG) ? 1 : 0, first == 600 ? 1 : 0);
    }

    /** An answer below 0 is none that is refused. */
    private static void answered() {
        TakerTown x = full();
        due("feed", x.feed(1, 2, 3, 4, 5), -1);
        due("work", x.work(150), -20);
        due("image", x.image(), -1);
        due("law", law(x, "?"), -9);
        due("town", town(x, "like 9;"), -8);
        due("words", words(x, "0 1;0 1;"), -8);
        x.town(0);
        due("undo", x.undo(), -1);
        due("restore", x.restore(), -1);
        due("ring", x.ring(2, 1), -1);
        due("hold", x.hold(0), -1);
        due("status", x.status(2), -1);
        due("count", x.count(3), -1);
        due("refusals", counted(x), "0 and 0");
    }

    private static void statusAndCount() {
        for (int what : new int[] {-1, 2, Integer.MIN_VALUE, Integer.MAX_VALUE}) {
            TakerTown x = standingWithTape();
            due("status " + what, x.status(what), TakerTown.NONE);
            due("refusals", counted(x), "1 and 2");
            alike("status " + what, x, standingWithTape());
        }
        for (int what : new int[] {-1, 3, Integer.MIN_VALUE, Integer.MAX_VALUE}) {
            TakerTown x = standingWithTape();
            due("count " + what, x.count(what), TakerTown.NONE);
            due("refusals", counted(x), "1 and 2");
            alike("count " + what, x, standingWithTape());
        }
        TakerTown x = standingWithTape();
        x.restore();
        due("no image keeps it", counted(x), "1 and 2");
        x.undo();
        due("no undo takes it back", counted(x), "1 and 2");
        town(x, FOUR);
        due("no town ends it", counted(x), "1 and 2");
        fullOnes();
    }

    private static void fullOnes() {
        TakerTown x = full();
        due("images", x.count(0), 3);
        due("bytes", x.count(1), 600);
        due("works", x.count(2), 16);
        due("persons", x.told(0), 8);
        due("plates", x.told(1), 40);
        due("lines", x.told(4), 8);
    }
}
