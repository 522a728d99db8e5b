import java.lang.reflect.Method;

/** For each promise of the document what it says, at its edges, and for wrong inputs; promiseN tests promise N. */
public final class PromisesTest extends Check {
    public static void main(String[] args) throws Exception {
        for (int n = 1; n <= 46; n++) {
            current = "promise " + n;
            Method test = PromisesTest.class.getDeclaredMethod("promise" + n);
            test.invoke(null);
        }
        end("all 46 promises hold");
    }

    /** The answer and the place of a text's fault. */
    private static void faulty(String text, int got, int want, TakerTown x, int place) {
        due(text, got, want);
        due("fault of " + text, x.fault(), place);
    }

    private static void townFault(String text, int want, int place) {
        TakerTown x = four();
        faulty(text, town(x, text), want, x, place);
        due("persons that stay", x.told(0), 4);
        due("tape", x.count(1), 0);
    }

    private static void lawFault(String text, int want, int place) {
        TakerTown x = four();
        law(x, "17");
        faulty(text, law(x, text), want, x, place);
        due("law that stays", x.shown(0, 0, 0), 17);
    }

    private static void workFault(String text, int want, int place) {
        TakerTown x = four();
        work(x, "take 0 0 0; burn 1;");
        faulty(text, work(x, text), want, x, place);
        due("works that stay", x.count(2), 1);
        due("plates that stay", x.told(1), 1);
        due("refused steps that stay", x.told(5), 1);
    }

    private static void wordsFault(String text, int want, int place) {
        TakerTown x = four();
        words(x, "0 6;");
        faulty(text, words(x, text), want, x, place);
        due("lines that stay", x.told(4), 1);
        due("the face that stays", x.unknown(1), 5);
    }

    static void promise1() {
        TakerTown x = new TakerTown();
        int[] told = {0, 0, 0, 1, 0, 0, 0, 0, 0};
        for (int what = 0; what < 9; what++) due("told " + what, x.told(what), told[what]);
        due("fault", x.fault(), TakerTown.NONE);
        due("NONE", TakerTown.NONE, -1);
        for (int what = 0; what < 3; what++) due("count " + what, x.count(what), 0);
        due("would", x.would(7, 0, 3, 0, 0, 0, 0, 0), 10);
    }

    static void promise2() {
        TakerTown x = new TakerTown();
        for (int i = 1; i <= 30; i++) due("feed", x.feed(i, i, i, i, i), 20 * i);
        due("feed beyond 600", x.feed(1, 1, 1, 1, 1), -1);
        due("tape", x.count(1), 600);
        TakerTown y = new TakerTown();
        // "like", " 2;l", "ike ", "3;  ", blanks: the highest byte of each number is the first.
        y.feed(0x6c696b65, 0x20323b6c, 0x696b6520, 0x333b2020, 0x20202020);
        due("town", y.town(20), 0);
        due("K", y.told(3), 3);
    }

    static void promise3() {
        TakerTown x = four();
        due("persons", x.told(0), 4);
        put(x, "person 1 1 1;");
        bad("town(-1)", () -> x.town(-1));
        bad("town(21)", () -> x.town(21));
        due("tape stays", x.count(1), 20);
        law(x, "9");
        words(x, "0 6;");
        work(x, "take 0 0 1; mood 1 2; year; burn 3;");
        x.image();
        due("a town more", town(x, " person63 0 00;like6 ;person 0 9 40; shy 1 0 ;shy 1 0;like 2;  "), 2);
        due("no law", x.shown(0, 0, 0), 63);
        int[] told = {2, 0, 0, 2, 0, 0, 0, 0, 1};
        for (int what = 0; what < 9; what++) due("told " + what, x.told(what), told[what]);
        due("no image", x.restore(), -1);
        due("nothing to undo", x.undo(), -1);
        due("an empty town", x.town(0), 0);
        due("its K", x.told(3), 1);
        townTexts();
    }

    private static void townTexts() {
        townFault("person 64 0 0;", -8, 7);
        townFault("person 0 10 0;", -8, 9);
        townFault("person 0 0 41;", -8, 11);
        townFault("person 4294967296 0 0;", -8, 7);
        townFault("person 000000000000063 0 0;shy 0 1;", -8, 33);
        townFault("shy 0 0;person 1 1 1;", -8, 4);
        townFault("like 7;", -8, 5);
        townFault("like;", -9, 4);
        townFault("like  ", -9, 6);
        townFault("like 1 ", -9, 7);
        townFault("like 1;;", -9, 7);
        townFault("like 1; persons 1;", -9, 8);
        townFault("Like 1;", -9, 0);
        townFault("like 1; likez 1;", -9, 8);
        townFault("like/1;", -9, 4);
        townFault("like 1;\u00e9", -9, 7);
        townFault("like -1;", -9, 5);
        townFault("person 1 1 1;".repeat(8) + " person 99;", -7, 105);
        townFault("like 1;".repeat(60) + "like 1;", -7, 420);
        townFault("like 1;".repeat(60) + "likes 1;", -9, 420);
        townFault("like 1;".repeat(60) + " ;", -9, 421);
        due("60 clauses", townOf("person 1 1 1;".repeat(8) + "like 2;".repeat(52)).told(0), 8);
    }

    static void promise4() {
        TakerTown x = four();
        put(x, "face" + " ".repeat(150));
        bad("law(151)", () -> x.law(151));
        bad("law(-1)", () -> x.law(-1));
        due("tape stays", x.count(1), 160);
        due("law(150)", x.law(150), 1);
        due("law", value(x, "2+3*4-1"), 13);
        due("left first", value(x, "9-3-2"), 4);
        due("times and by", value(x, "7/2*2"), 6);
        due("by cuts", value(x, "(0-7)/2+9"), 6);
        due("left has the sign", value(x, "(0-7)%4+9"), 6);
        due("by 0", value(x, "7/0+7%0+1"), 1);
        due("it wraps", value(x, "999*999*999*999%64+40"), 9);
        due("the least by -1", value(x, "(0-512*512*512*16)/(0-1)+20"), 0);
        due("0 at least", value(x, "0-1"), 0);
        due("63 at most", value(x, "64"), 63);
        due("least", value(x, "least[3,4*2]"), 3);
        due("most", value(x, "most [ 3 , 4*2 ] "), 8);
        due("digits", value(x, "0000000000000000021"), 21);
        due("deepest", value(x, "1+1*most[1,".repeat(6) + "1+1*1" + "]".repeat(6)), 8);
        lawTexts();
    }

    private static void lawTexts() {
        lawFault("", -9, 0);
        lawFault("   ", -9, 3);
        lawFault("faces", -9, 0);
        lawFault("1 + 1000", -8, 4);
        lawFault("1 +", -9, 3);
        lawFault("1 2", -9, 2);
        lawFault("1;", -9, 1);
        lawFault("-1", -9, 0);
        lawFault("(1", -9, 2);
        lawFault("(1]", -9, 2);
        lawFault("1)", -9, 1);
        lawFault("least 1", -9, 6);
        lawFault("least[1]", -9, 7);
        lawFault("most[1,2,3]", -9, 8);
        lawFault("(((((((1)))))))", -7, 6);
        lawFault("((( most[1, least[(1+ most[1,2]),3]])))", -7, 22);
        lawFault("((((((1+least", -7, 8);
        lawFault("((((((1))))))((((((1))))))", -9, 13);
        TakerTown x = four();
        due("six at one time, often", value(x, "((((((1))))))+((((((1))))))"), 2);
    }

    static void promise5() {
        TakerTown x = four();
        put(x, "year;" + " ".repeat(150));
        bad("work(151)", () -> x.work(151));
        due("work(150)", x.work(150), 1);
        due("take", work(x, "take 0 2 1;take 0 1 0;take 2 2 0;take 1 1 5;"), 2);
        due("refused", x.told(5), 2);
        due("mood", work(x, "mood 1 3;mood 1 3;mood 1 0;mood 1 0;mood 0 9;"), 3);
        due("a year turns moods", work(x, "year;"), 1);
        due("mood", x.person(0, 3), 0);
        due("burn", work(x, "burn 5;burn 5;burn 0;"), 1);
        due("plates move up", work(x, "take 1 1 2;take 3 3 3;burn 1;"), 3);
        due("the first", x.plate(0, 0), 1);
        due("the second", x.plate(1, 0), 3);
        due("40 plates", work(x, "again 30[take 3 3 1;];again 30[take 3 3 0;];"), 38);
        due("refused", x.told(5), 22);
        due("begun", work(x, "again 30[again 30[];burn 5;];".repeat(2) + "again 30[mood 0 1;mood 0 2;];burn 5;"), 60);
        due("refused", x.told(5), 61);
        due("no more than 200", work(x, "again 3[again 30[mood 0 1;mood 0 2;];again 30[burn 5;];];burn 0;"), 134);
        due("refused", x.told(5), 60);
        due("none", work(x, "again 0[burn 0;burn 0;];"), 0);
        due("plates", x.told(1), 40);
        workYears();
        workTexts();
        workLimit();
    }

    private static void workYears() {
        TakerTown x = four();
        due("years", work(x, "again 30[again 5[year;];];"), 150);
        due("years", work(x, "again 30[year;];again 30[year;];"), 50);
        due("refused from 200 on", x.told(5), 10);
        due("year", x.told(2), 200);
        due("as many steps as can be told", work(four(), "year;".repeat(30)), 30);
        due("a year that is one too many", work(four(), "year;".repeat(29) + "year"), -9);
        TakerTown last = townOf("person 1 1 1;person 2 2 2;");
        due("the last person", work(last, "take 1 1 5;mood 1 9;take 1 0 0;"), 3);
        due("an again at the 200th step", work(four(), "again 30[mood 0 1;mood 0 2;];".repeat(3) + "again 15[year;];again 1[year;];year;"), 195);
    }

    private static void workTexts() {
        workFault("take 4 0 0;", -8, 5);
        workFault("take 0 4 0;", -8, 7);
        workFault("take 0 0 6;", -8, 9);
        workFault("take 0 0;", -9, 8);
        workFault("mood 4 0;", -8, 5);
        workFault("mood 0 10;", -8, 7);
        workFault("burn 6;", -8, 5);
        workFault("again 31 [];", -8, 6);
        workFault("again 30 year;", -9, 9);
        workFault("year;years;", -9, 5);
        workFault("year", -9, 4);
        workFault("year; ]", -9, 6);
        workFault("again 1 [year]", -9, 13);
        workFault("again 1 [year;", -9, 14);
        workFault("again 1 [year;]", -9, 15);
        workFault("again 0 [burn 9;];", -8, 14);
        workFault("again1[".repeat(6) + "year;again", -7, 47);
        workFault("again1[".repeat(6) + "year;agai", -9, 47);
        due("six, often", work(four(), ("again1[".repeat(6) + "year;" + "];".repeat(6)).repeat(2)), 2);
    }

    private static void workLimit() {
        TakerTown x = four();
        for (int i = 0; i < 15; i++) due("work", x.work(0), 0);
        due("the 16th", work(x, "burn 0;"), 0);
        due("a fault", law(x, "1 1"), -9);
        due("the 17th", work(x, "nothing"), -20);
        due("no fault", x.fault(), -1);
        due("the tape is empty", x.count(1), 0);
        due("refused steps stay", x.told(5), 1);
        bad("work(1)", () -> x.work(1));
        due("undo", x.undo(), 15);
        due("again the 16th", work(x, "take 0 0 0;"), 1);
    }

    static void promise6() {
        TakerTown x = four();
        put(x, "0 6;" + " ".repeat(60));
        bad("words(61)", () -> x.words(61));
        due("words(60)", x.words(60), 1);
        due("lines", words(x, " 3 0;0 6;1 5 ; "), 3);
        due("told", x.told(4), 3);
        due("none", x.words(0), 0);
        due("told", x.told(4), 0);
        wordsFault("4 1;", -8, 0);
        wordsFault("0 7;", -8, 2);
        wordsFault("0 1; 0 0;", -8, 5);
        wordsFault("0 1", -9, 3);
        wordsFault("0;", -9, 1);
        wordsFault("a 1;", -9, 0);
        wordsFault("0 1;1 1;2 1;3 1;04 1;", -8, 16);
        due("nobody to tell of", words(new TakerTown(), "0 1;"), -8);
    }

    static void promise7() {
        TakerTown x = four();
        due("none", x.fault(), -1);
        law(x, "1+?");
        due("place", x.fault(), 2);
        bad("town(1)", () -> x.town(1));
        due("a refused call is no text", x.fault(), 2);
        x.words(0);
        due("none", x.fault(), -1);
    }

    static void promise8() {
        TakerTown x = four();
        due("none", x.undo(), -1);
        work(x, "take 0 0 0;mood 0 4;year;mood 1 2;");
        work(x, "take 1 0 0;burn 0;year;burn 0;");
        due("undo", x.undo(), 1);
        due("plates", x.told(1), 1);
        due("year", x.told(2), 1);
        due("mood", x.person(1, 3), 2);
        due("refused", x.told(5), 0);
        due("burned", x.told(7), 0);
        due("undo", x.undo(), 0);
        due("took", x.person(0, 4), 0);
        due("none", x.undo(), -1);
    }

    static void promise9() {
        TakerTown x = townOf("person 1 1 1;person 2 2 2;shy 0 1;shy 1 0;shy 0 1;like 4;");
        words(x, "1 2;");
        work(x, "take 0 0 0;take 1 1 1;take 1 0 1;take 1 1 2;burn 1;year;");
        int[] told = {2, 2, 1, 4, 1, 1, 3, 1, 2};
        for (int what = 0; what < 9; what++) due("told " + what, x.told(what), told[what]);
        bad("told(9)", () -> x.told(9));
        bad("told(-1)", () -> x.told(-1));
    }

    static void promise10() {
        TakerTown x = four();
        work(x, "take 0 2 0;take 0 0 0;take 1 0 0;burn 0;mood 0 7;");
        int[] due = {5, 3, 10, 7, 2, 2, 2};
        for (int what = 0; what < 7; what++) due("person 0, " + what, x.person(0, what), due[what]);
        due("person 2, 6", x.person(2, 6), 4);
        bad("what 7", () -> x.person(0, 7));
        bad("what -1", () -> x.person(0, -1));
        none("person 4", () -> x.person(4, 7));
        none("person -1", () -> x.person(-1, 0));
    }

    static void promise11() {
        TakerTown x = four();
        work(x, "year;take 0 2 1;mood 1 1;year;mood 1 1;take 1 3 5;");
        int[] due = {1, 3, 5, 8, 2, 2};
        for (int what = 0; what < 6; what++) due("plate 1, " + what, x.plate(1, what), due[what]);
        due("looks of two the first", townOfTwins().plate(0, 5), 0);
        bad("what 6", () -> x.plate(1, 6));
        none("plate 2", () -> x.plate(2, 6));
        none("plate -1", () -> x.plate(-1, 0));
    }

    private static TakerTown townOfTwins() {
        TakerTown x = townOf("person 1 0 0;person 2 0 0;person 1 0 0;");
        law(x, "0");
        work(x, "take 1 1 0;");
        return x;
    }

    static void promise12() {
        TakerTown x = four();
        work(x, "take 0 2 1;take 1 0 3;take 3 2 1;");
        int[] due = {2, 9, 4, 9};
        for (int what = 0; what < 4; what++) due("hall 1, " + what, x.hall(1, what), due[what]);
        for (int what = 0; what < 4; what++) due("hall 5, " + what, x.hall(5, what), 0);
        bad("what 4", () -> x.hall(1, 4));
        none("hall 6", () -> x.hall(6, 4));
        none("hall -1", () -> x.hall(-1, 0));
    }

    static void promise13() {
        TakerTown x = four();
        law(x, "hall * 10 + own * 5 + taken + sitter - sitter");
        work(x, "take 0 0 0;burn 0;take 0 0 0;");
        due("he himself", x.shown(0, 0, 2), 27);
        due("who never does", x.shown(0, 1, 5), 52);
        none("a", () -> x.shown(4, 0, 0));
        none("b", () -> x.shown(0, -1, 0));
        none("hall", () -> x.shown(0, 0, 6));
    }

    static void promise14() {
        TakerTown x = four();
        int[] most = {63, 9, 9, 63, 1, 200, 999, 5};
        String[] words = {"face", "temper", "mood", "sitter", "own", "year/10", "taken/100", "hall"};
        int[] value = {63, 9, 9, 63, 1, 20, 9, 5};
        for (int i = 0; i < 8; i++) {
            law(x, words[i]);
            int[] g = new int[8];
            g[i] = most[i];
            due(words[i], x.would(g[0], g[1], g[2], g[3], g[4], g[5], g[6], g[7]), value[i]);
            g[i]++;
            bad(words[i] + " beyond", () -> x.would(g[0], g[1], g[2], g[3], g[4], g[5], g[6], g[7]));
            g[i] = -1;
            bad(words[i] + " below", () -> x.would(g[0], g[1], g[2], g[3], g[4], g[5], g[6], g[7]));
        }
    }

    static void promise15() {
        TakerTown x = new TakerTown();
        due("unlike", x.unlike(5, 40), 4);
        due("all", x.unlike(63, 0), 6);
        due("none", x.unlike(9, 9), 0);
        due("all", x.unlike(0, 63), 6);
        bad("64", () -> x.unlike(64, 0));
        bad("64", () -> x.unlike(0, 64));
        bad("-1", () -> x.unlike(0, -1));
    }

    static void promise16() {
        TakerTown x = four();
        due("none", x.had(), 0);
        work(x, "take 1 0 3;take 0 2 1;take 2 3 1;mood 2 3;take 2 2 1;");
        due("had", x.had(), 9);
        work(x, "burn 3;");
        due("not if it burned", x.had(), 8);
    }

    static void promise17() {
        TakerTown x = four();
        due("none", x.mistaken(), -1);
        work(x, "take 1 1 0;take 3 3 0;");
        due("none", x.mistaken(), -1);
        work(x, "take 1 0 0;take 0 2 0;");
        due("mistaken", x.mistaken(), 2);
        TakerTown y = four();
        work(y, "take 0 2 0;");
        due("the very first", y.mistaken(), 0);
    }

    static void promise18() {
        TakerTown x = four();
        int[] due = {3, 2, 8, 12};
        for (int b = 0; b < 4; b++) due("can " + b, x.can(b), due[b]);
        law(x, "sitter + hall + most[0, taken - 1] * 7");
        due("in hall 0, all but shy ones", x.can(2), 11);
        work(x, "again 20[take 0 0 0;];again 20[take 0 2 0;];");
        due("also if 40 hang", x.can(2), 10);
        none("can(4)", () -> x.can(4));
        none("can(-1)", () -> x.can(-1));
    }

    static void promise19() {
        TakerTown x = four();
        due("all", x.fewest(15), 10);
        due("least bits", x.fewest(1), 1);
        due("nobody told", x.fewest(0), 0);
        law(x, "0");
        due("none can", x.fewest(2), -1);
        bad("16", () -> x.fewest(16));
        bad("-1", () -> x.fewest(-1));
    }

    static void promise20() {
        TakerTown x = four();
        due("all can be", x.nobody(15), -1);
        law(x, "40");
        due("first", x.nobody(15), 0);
        due("first of told ones", x.nobody(14), 1);
        due("not among told ones", x.nobody(8), -1);
        bad("17", () -> x.nobody(17));
        bad("-16", () -> x.nobody(-16));
    }

    static void promise21() {
        TakerTown x = townOf("person 0 0 0;person 1 0 0;person 2 0 0;person 4 0 0;person 8 0 0;shy 1 0;");
        law(x, "sitter");
        due("twos", x.ring(2, 0), 9);
        due("the first", x.ring(2, 1), 2);
        due("threes", x.ring(3, 0), 17);
        due("the first", x.ring(3, 1), 12);
        due("fives", x.ring(5, 0), 18);
        due("the first", x.ring(5, 1), 1234);
        law(x, "63");
        due("none", x.ring(4, 1), -1);
        due("none", x.ring(4, 0), 0);
        bad("1", () -> x.ring(1, 0));
        bad("6", () -> x.ring(6, 0));
        bad("what", () -> x.ring(2, 2));
    }

    static void promise22() {
        TakerTown x = four();
        due("who", x.who(5, 2), 1);
        due("never", x.who(40, 2), 0);
        due("who", x.who(40, 3), 4);
        law(x, "33");
        due("all but shy ones", x.who(33, 1), 14);
        due("nobody", x.who(63, 1), 0);
        bad("64", () -> x.who(64, 0));
        bad("-1", () -> x.who(-1, 0));
        none("4", () -> x.who(64, 4));
    }

    static void promise23() {
        TakerTown x = four();
        due("one", x.made(7), 2);
        due("two", x.made(45), 5);
        due("least bits", x.made(47), 6);
        due("nobody", x.made(0), 0);
        due("none", x.made(1), -1);
        due("none", x.made(63), -1);
        due("all", townOf("person 1 0 0;person 2 0 0;person 60 0 0;").made(63), 7);
        bad("64", () -> x.made(64));
        bad("-1", () -> x.made(-1));
    }

    static void promise24() {
        TakerTown x = four();
        due("all", x.unknown(0), 64);
        words(x, "0 5;1 6;");
        int[] due = {1, 7, 7, 56};
        for (int what = 0; what < 4; what++) due("unknown " + what, x.unknown(what), due[what]);
        words(x, "0 6;1 6;");
        int[] without = {0, -1, 0, 0};
        for (int what = 0; what < 4; what++) due("without " + what, x.unknown(what), without[what]);
        words(x, "0 5;1 5;");
        due("two", x.unknown(0), 0);
        words(x, "0 4;2 0;");
        due("23 has four in common with 5", x.unknown(0), 1);
        words(x, "0 3;2 0;");
        due("not three", x.unknown(0), 0);
        words(x, "2 0;");
        due("the turned face", x.unknown(1), 23);
        bad("4", () -> x.unknown(4));
        bad("-1", () -> x.unknown(-1));
    }

    static void promise25() {
        TakerTown x = four();
        due("the first of alike ones", x.hold(0), 0);
        due("left: 20 of 64", x.hold(1), 20);
        words(x, "0 5;");
        due("who", x.hold(0), 2);
        due("left", x.hold(1), 4);
        words(x, "0 5;1 5;2 5;3 5;");
        due("nobody", x.hold(0), -1);
        due("nobody", x.hold(1), -1);
        due("nobody", new TakerTown().hold(1), -1);
        bad("2", () -> x.hold(2));
        bad("-1", () -> x.hold(-1));
    }

    static void promise26() {
        TakerTown x = four();
        due("none", x.papers(), 0);
        work(x, "take 1 1 0;take 1 1 0;take 1 1 0;");
        due("alike to two", x.papers(), 2);
        work(x, "take 1 1 0;take 1 1 0;take 1 1 0;take 1 1 0;take 1 1 0;take 2 3 0;take 3 3 0;");
        due("only the first eight", x.papers(), 2);
        TakerTown y = townOf("person 9 0 0;".repeat(8) + "like 6;");
        work(y, "again 9[take 0 0 0;];");
        due("all eight", y.papers(), 8);
        for (int p = 0; p < 8; p++) due("paper " + p, y.paper(p), p);
    }

    static void promise27() {
        // Plate 0 is alike to both, plate 1 to the first alone: the first must leave plate 0 to the other.
        TakerTown x = townOf("person 0 0 0;person 1 0 0;person 48 0 0;like 1;");
        law(x, "most[0, 2 * taken]");
        work(x, "take 0 0 0;take 0 0 0;");
        due("most", x.papers(), 2);
        due("first", x.paper(0), 1);
        due("second", x.paper(1), 0);
        due("third", x.paper(2), -1);
        none("3", () -> x.paper(3));
        none("-1", () -> x.paper(-1));
        TakerTown y = townOf("person 0 0 0;person 0 0 0;");
        work(y, "take 0 0 0;");
        due("the first carries", y.paper(0), 0);
        due("none for the second", y.paper(1), -1);
    }

    static void promise28() {
        TakerTown x = new TakerTown();
        due("rests", x.bids(2, 5, 5, 0), 3);
        due("first", x.bids(2, 5, 5, 1), 20);
        due("together", x.bids(2, 5, 5, 2), 5);
        due("rests", x.bids(9, 0, 3, 0), 37);
        due("first", x.bids(9, 0, 3, 1), 1);
        due("together", x.bids(9, 0, 3, 2), 3);
        due("k 0", x.bids(0, 5, 7, 0), 1);
        due("worth nothing", x.bids(1, 0, 0, 0), 3);
        bad("k", () -> x.bids(10, 0, 0, 0));
        bad("v", () -> x.bids(0, 41, 0, 0));
        bad("w", () -> x.bids(0, 0, -1, 0));
        bad("w", () -> x.bids(0, 0, 41, 0));
        bad("what", () -> x.bids(0, 0, 0, 3));
    }

    static void promise29() {
        TakerTown x = four();
        due("levelled", x.share(0, 15, 20), 5);
        due("no more than his price", x.share(1, 15, 20), 4);
        due("all", x.share(2, 15, 400), 25);
        due("all, just", x.share(2, 15, 64), 25);
        due("one less", x.share(2, 15, 63), 24);
        due("none", x.share(2, 15, 3), 0);
        due("not told", x.share(0, 14, 9), 0);
        bad("bits", () -> x.share(0, 16, 9));
        bad("n", () -> x.share(0, 15, 401));
        bad("n", () -> x.share(0, 15, -1));
        none("4", () -> x.share(4, 99, 999));
    }

    static void promise30() {
        TakerTown x = four();
        due("none", x.busiest(0), -1);
        due("none", x.busiest(1), -1);
        work(x, "take 0 0 0;take 0 0 0;take 0 0 0;take 3 0 1;take 3 0 1;take 2 0 1;take 2 0 1;burn 0;");
        due("the first", x.busiest(0), 2);
        due("how many", x.busiest(1), 2);
        work(x, "take 0 0 3;take 0 0 3;take 0 0 3;");
        due("the first of all", x.busiest(0), 0);
        due("how many", x.busiest(1), 3);
        bad("2", () -> x.busiest(2));
        bad("-1", () -> x.busiest(-1));
    }

    static void promise31() {
        TakerTown x = four();
        due("all", x.unseen(), 15);
        work(x, "take 0 2 1;burn 1;take 0 1 0;");
        due("those who are not", x.unseen(), 10);
    }

    static void promise32() {
        TakerTown x = four();
        work(x, "take 1 1 0;take 1 0 3;take 0 2 5;");
        due("1", x.where(1), 9);
        due("0", x.where(0), 32);
        due("2", x.where(2), 0);
        none("4", () -> x.where(4));
    }

    static void promise33() {
        TakerTown x = four();
        due("0", x.twins(0), 3);
        due("2", x.twins(2), 12);
        none("4", () -> x.twins(4));
        TakerTown y = townOf("person 1 0 0;person 1 0 0;person 0 0 0;like 0;");
        due("like 0", y.twins(0), 3);
    }

    static void promise34() {
        TakerTown x = four();
        due("himself", x.chain(0, 0), 0);
        due("one", x.chain(1, 0), 1);
        due("none", x.chain(0, 1), -1);
        TakerTown y = townOf("person 1 0 0;person 3 0 0;person 7 0 0;person 15 0 0;person 31 0 0;"
            + "shy 1 0;shy 2 1;shy 3 2;");
        due("three", y.chain(0, 3), 3);
        due("four", y.chain(0, 4), 4);
        due("not back", y.chain(3, 0), -1);
        due("back", y.chain(4, 3), 1);
        none("a", () -> x.chain(4, 0));
        none("b", () -> x.chain(0, 4));
    }

    static void promise35() {
        TakerTown x = four();
        work(x, "take 0 2 1;take 1 0 3;take 2 3 1;take 1 1 0;take 0 0 0;mood 0 2;take 0 2 0;");
        int[] due = {3, 2, 1};
        for (int what = 0; what < 3; what++) due("looks 1, " + what, x.looks(1, what), due[what]);
        bad("3", () -> x.looks(0, 3));
        none("4", () -> x.looks(4, 3));
    }

    static void promise36() {
        TakerTown x = four();
        due("price", x.cheapest(15, 0), 29);
        due("who", x.cheapest(15, 1), 10);
        due("nobody told", x.cheapest(0, 1), 0);
        TakerTown y = townOf("person 0 0 3;person 0 0 0;person 0 0 0;");
        due("price", y.cheapest(7, 0), 0);
        due("least bits", y.cheapest(7, 1), 2);
        TakerTown z = townOf("person 1 0 3;person 6 0 5;person 56 0 7;like 0;");
        due("all of them", z.cheapest(7, 0), 15);
        due("all of them", z.cheapest(7, 1), 7);
        due("all of them, too", z.fewest(7), 7);
        law(y, "63");
        due("none", y.cheapest(1, 0), -1);
        due("none", y.cheapest(1, 1), -1);
        bad("bits", () -> y.cheapest(8, 0));
        bad("what", () -> y.cheapest(1, 2));
    }

    static void promise37() {
        TakerTown x = four();
        due("5", x.common(5), 3);
        due("0", x.common(0), 15);
        due("40", x.common(40), 12);
        due("63", x.common(63), 0);
        bad("64", () -> x.common(64));
        bad("-1", () -> x.common(-1));
    }

    static void promise38() {
        TakerTown x = four();
        work(x, "mood 0 9;");
        due("now", x.moodFor(0, 0), 0);
        due("never", x.moodFor(0, 1), -1);
        due("one", x.moodFor(1, 2), 1);
        due("three", x.moodFor(0, 2), 3);
        law(x, "sitter * (mood / 9)");
        due("nine", x.moodFor(1, 0), 9);
        due("mood stays", x.person(0, 3), 9);
        none("a", () -> x.moodFor(4, 0));
        none("b", () -> x.moodFor(0, 4));
    }

    static void promise39() {
        TakerTown x = four();
        work(x, "take 0 0 0;take 1 1 0;take 1 1 2;");
        due("0", x.lost(0), 1);
        due("2", x.lost(2), 0);
        due("plates stay", x.told(1), 3);
        none("6", () -> x.lost(6));
        none("-1", () -> x.lost(-1));
    }

    static void promise40() {
        TakerTown x = four();
        due("none", x.faces(0, 0), 0);
        due("least", x.faces(0, 1), -1);
        due("greatest", x.faces(0, 2), -1);
        work(x, "take 0 2 1;take 0 2 1;mood 0 9;take 0 2 1;mood 0 2;take 0 3 0;take 1 0 0;burn 0;");
        due("unlike", x.faces(0, 0), 2);
        due("least", x.faces(0, 1), 5);
        due("greatest", x.faces(0, 2), 14);
        bad("3", () -> x.faces(0, 3));
        none("4", () -> x.faces(4, 3));
    }

    static void promise41() {
        TakerTown x = townOf("person 5 3 10;");
        due("hang", x.years(7, 8, 0, 0), 8);
        due("had", x.years(7, 8, 0, 3), 1);
        due("40 at most", x.years(7, 48, 0, 0), 40);
        due("not done", x.years(7, 48, 0, 1), 8);
        due("each burns", x.years(7, 48, 16, 2), 48);
        due("none hangs", x.years(7, 48, 16, 0), 0);
        due("nothing stays changed", x.told(6), 0);
        law(x, "year * 20");
        due("each 4th a year", x.years(1, 4, 0, 3), 0);
        law(x, "least[1, year] * 5");
        due("not ahead of the 4th", x.years(1, 4, 0, 3), 0);
        due("behind the 4th", x.years(1, 5, 0, 3), 1);
        law(x, "least[1, year / 201] * 5");
        work(x, "again 30[again 5[year;];];");
        work(x, "again 30[year;];again 30[year;];");
        due("year", x.told(2), 200);
        due("not yet", x.years(1, 4, 0, 3), 0);
        due("beyond 200", x.years(1, 5, 0, 3), 1);
        bad("takes", () -> x.years(0, 0, 0, 0));
        bad("takes", () -> x.years(0, 97, 0, 0));
        bad("q", () -> x.years(0, 1, 17, 0));
        bad("q", () -> x.years(0, 1, -1, 0));
        bad("what", () -> x.years(0, 1, 0, 4));
        due("without persons", new TakerTown().years(5, 96, 16, 1), 0);
        draws();
    }

    /** Draws by hand: of seed 1 the 1st is 16838, then 5758, 10113, 17515, 31051, 5627, 23010, 7419. */
    private static void draws() {
        TakerTown x = townOf("person 0 0 0;person 63 0 0;person 7 0 0;");
        law(x, "sitter");
        // 16838 % 3 = 2 takes 5758 % 3 = 1 in hall 10113 % 6 = 3; 17515 % 16 = 11.
        due("had by one take", x.span(1, 1, 1, 0, 2, 1), 1);
        due("had by one take", x.span(1, 1, 1, 0, 2, 2), 0);
        due("11 is not below 11", x.years(1, 1, 11, 2), 0);
        due("11 is below 12", x.years(1, 1, 12, 2), 1);
        TakerTown y = townOf("person 0 0 0;person 63 0 0;person 7 0 0;shy 2 1;");
        due("never", y.years(1, 1, 0, 1), 1);
        work(y, "take 0 0 3;take 0 0 2;");
        due("the hall burns also if the take can't be done", y.years(1, 1, 12, 0), 1);
        due("one hall", y.years(1, 1, 12, 2), 1);
        // 31051 % 3 = 1 takes 5627 % 3 = 2 in hall 23010 % 6 = 0; 7419 % 16 = 11.
        due("the second take", x.span(1, 1, 2, 0, 2, 2), 1);
    }

    static void promise42() {
        TakerTown x = four();
        int least = 40;
        int most = 0;
        for (int i = 0; i < 20; i++) {
            least = Math.min(least, x.years(Integer.MAX_VALUE - 3 + i, 30, 6, 0));
            most = Math.max(most, x.years(Integer.MAX_VALUE - 3 + i, 30, 6, 0));
        }
        due("fewest", x.span(Integer.MAX_VALUE - 3, 20, 30, 6, 0, 0), least);
        due("most", x.span(Integer.MAX_VALUE - 3, 20, 30, 6, 1, 3), most);
        TakerTown y = townOf("person 5 3 10;");
        due("had", y.span(7, 20, 8, 0, 2, 0), 20);
        bad("many", () -> x.span(1, 0, 1, 0, 0, 0));
        bad("many", () -> x.span(1, 21, 1, 0, 0, 0));
        bad("takes", () -> x.span(1, 1, 97, 0, 0, 0));
        bad("q", () -> x.span(1, 1, 1, 17, 0, 0));
        bad("what", () -> x.span(1, 1, 1, 0, 3, 0));
        bad("person", () -> x.span(1, 1, 1, 0, 0, 4));
        bad("person", () -> x.span(1, 1, 1, 0, 1, -1));
    }

    static void promise43() {
        TakerTown x = four();
        due("one", x.image(), 1);
        due("two", x.image(), 2);
        due("three", x.image(), 3);
        due("no more", x.image(), -1);
        due("count", x.count(0), 3);
        due("room again", x.restore(), 2);
        due("three", x.image(), 3);
    }

    static void promise44() {
        TakerTown x = four();
        work(x, "take 0 0 0;mood 0 3;");
        x.image();
        work(x, "take 1 1 1;burn 0;year;");
        x.image();
        x.undo();
        x.undo();
        law(x, "1");
        words(x, "0 6;");
        work(x, "burn 0;");
        due("restore", x.restore(), 1);
        due("refused", x.told(5), 0);
        due("works", x.count(2), 2);
        due("year", x.told(2), 1);
        due("restore", x.restore(), 0);
        due("plates", x.told(1), 1);
        due("mood", x.person(0, 3), 3);
        due("works", x.undo(), 0);
        due("plates", x.told(1), 0);
        due("law stays", x.shown(0, 0, 0), 1);
        due("words stay", x.told(4), 1);
        work(x, "burn 0;");
        due("none", x.restore(), -1);
        due("which changes nothing", x.told(5), 1);
    }

    static void promise45() {
        TakerTown x = four();
        x.image();
        none("can", () -> x.can(9));
        none("can", () -> x.can(9));
        bad("told", () -> x.told(9));
        x.restore();
        due("0", x.status(0), 2);
        due("1", x.status(1), 1);
        x.town(0);
        due("also behind a town", x.status(0), 2);
        due("others", x.status(2), -1);
        due("others", x.status(-1), -1);
    }

    static void promise46() {
        TakerTown x = four();
        x.image();
        x.work(0);
        x.work(0);
        put(x, "1");
        due("images", x.count(0), 1);
        due("tape", x.count(1), 20);
        due("works", x.count(2), 2);
        due("others", x.count(3), -1);
        due("others", x.count(-1), -1);
    }
}
