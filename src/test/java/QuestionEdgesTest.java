/** The edges of the questions: none at all, all of them, the first or least of alike ones, the last that counts. */
public final class QuestionEdgesTest extends Check {
    private static final String OWN_ONLY = "sitter * own + (63 - sitter) * (1 - own)";

    public static void main(String[] args) {
        nobodyThere();
        toldThings();
        shownThings();
        looksAndMistaken();
        hadThings();
        canThings();
        fewestAndCheapest();
        nobodyCan();
        rings();
        chains();
        whoAndMade();
        unknownFaces();
        holdThings();
        papersCarried();
        bidsThings();
        shares();
        busiestAndUnseen();
        whereAndHalls();
        twinsAndCommon();
        looksCounted();
        moodsFor();
        lostThings();
        facesThings();
        yearsAtEdges();
        yearsByState();
        spans();
        end("the questions hold at their edges");
    }

    private static TakerTown under(String town, String law) {
        TakerTown x = townOf(town);
        due("law " + law, law(x, law), 1);
        return x;
    }

    private static void answers(TakerTown x, String name, int what, int... due) {
        for (int i = 0; i < due.length; i++) due(name + "(.., " + i + ")", ask(x, name, what, i), "" + due[i]);
    }

    /** A town without clauses: what can be asked has an answer. */
    private static void nobodyThere() {
        current = "nobody is there";
        TakerTown x = new TakerTown();
        int[] told = {0, 0, 0, 1, 0, 0, 0, 0, 0};
        for (int what = 0; what < told.length; what++) due("told " + what, x.told(what), told[what]);
        due("had", x.had(), 0);
        due("mistaken", x.mistaken(), -1);
        due("fewest", x.fewest(0), 0);
        due("nobody", x.nobody(0), -1);
        due("cheapest", x.cheapest(0, 0), 0);
        due("cheapest", x.cheapest(0, 1), 0);
        for (int n = 2; n <= 5; n++) {
            due("rings", x.ring(n, 0), 0);
            due("the first", x.ring(n, 1), -1);
        }
        due("made of nothing", x.made(0), 0);
        for (int s = 1; s < 64; s++) due("made", x.made(s), -1);
        int[] unknown = {64, 0, 0, 0};
        for (int what = 0; what < 4; what++) due("unknown " + what, x.unknown(what), unknown[what]);
        due("hold", x.hold(0), -1);
        due("hold", x.hold(1), -1);
        due("papers", x.papers(), 0);
        due("busiest", x.busiest(0), -1);
        due("busiest", x.busiest(1), -1);
        due("unseen", x.unseen(), 0);
        due("common", x.common(0), 0);
        for (int h = 0; h < 6; h++) {
            for (int what = 0; what < 4; what++) due("hall", x.hall(h, what), 0);
            due("lost", x.lost(h), 0);
        }
        for (int what = 0; what < 4; what++) due("years", x.years(7, 96, 16, what), 0);
        due("bids", x.bids(0, 0, 0, 0), 1);
        due("refusals", x.status(0) + x.status(1), 0);
    }

    private static void toldThings() {
        current = "told, person, plate";
        TakerTown x = townOf("person 1 1 1;person 2 2 2;shy 0 1;shy 1 0;shy 0 0;shy 0 1;like 0;");
        due("pairs, each way for itself, each once", x.told(8), 3);
        due("whom 0 never takes", x.person(0, 6), 3);
        due("whom 1 never takes", x.person(1, 6), 1);
        work(x, "year;take 1 1 5;burn 5;take 1 1 4;take 0 0 0;");
        int[] told = {2, 1, 1, 0, 0, 1, 2, 1, 3};
        for (int what = 0; what < told.length; what++) due("told " + what, x.told(what), told[what]);
        answers(x, "person", 1, 2, 2, 2, 0, 2, 2, 1);
        answers(x, "plate", 0, 1, 1, 4, 2, 1, 1);
        TakerTown eight = townOf("person 1 2 3;".repeat(7) + "person 63 9 40;");
        work(eight, "mood 7 9;again 30[take 7 7 5;];again 10[take 7 0 5;];");
        answers(eight, "person", 7, 63, 9, 40, 9, 40, 30, 0);
        answers(eight, "plate", 39, 7, 0, 5, 63, 0, 7);
        answers(eight, "hall", 5, 40, 128, 129, 128);
    }

    private static void shownThings() {
        current = "shown";
        TakerTown x = under("person 5 3 0;person 9 8 0;shy 0 1;", "own * 32 + hall");
        due("he himself", x.shown(1, 1, 5), 37);
        due("another", x.shown(1, 0, 0), 0);
        due("also if he never does", x.shown(0, 1, 3), 3);
        law(x, "face");
        due("the face of who takes", x.shown(0, 1, 0), 5);
        law(x, "sitter");
        due("the face of who is taken", x.shown(0, 1, 0), 9);
        law(x, "temper");
        due("his temper", x.shown(1, 0, 0), 8);
        law(x, "mood * 7");
        work(x, "mood 1 9;");
        due("his mood, now", x.shown(1, 0, 0), 63);
        due("not the other one's", x.shown(0, 1, 0), 0);
        law(x, "year");
        work(x, "again 30[year;];again 30[year;];again 4[year;];");
        due("the year, no more than 63", x.shown(0, 0, 0), 63);
        law(x, "taken * 30");
        work(x, "take 1 0 0;burn 0;");
        due("how many he took by now, also if they burned", x.shown(1, 0, 0), 30);
        due("not how often he was taken", x.shown(0, 1, 0), 0);
        law(x, "0-taken");
        due("0 at least", x.shown(1, 1, 0), 0);
        law(x, "face*13");
        due("63 at most", x.shown(0, 0, 0), 63);
    }

    private static void looksAndMistaken() {
        current = "looks";
        TakerTown x = under("person 1 0 0;person 2 0 0;person 4 0 0;", "6");
        work(x, "take 0 0 0;");
        due("of those with the fewest the first", x.plate(0, 5), 1);
        law(x, "0");
        work(x, "take 2 2 0;");
        due("of all alike the first", x.plate(1, 5), 0);
        law(x, "4");
        work(x, "take 0 2 0;");
        due("the last", x.plate(2, 5), 2);
        due("the first that looks like another one", x.mistaken(), 0);
        TakerTown far = under("person 0 0 0;", "63");
        work(far, "take 0 0 0;");
        due("all marks are unlike, but there is none else", far.plate(0, 5), 0);
        due("he himself", far.mistaken(), -1);
        TakerTown twins = townOf("person 9 0 0;person 9 0 0;");
        due("no plate", twins.mistaken(), -1);
        work(twins, "take 0 0 0;take 1 0 1;");
        due("none", twins.mistaken(), -1);
        work(twins, "take 0 1 2;take 1 1 2;");
        due("looks like the first of twins", twins.mistaken(), 2);
        work(twins, "burn 0;");
        due("as they move up", twins.mistaken(), 1);
        work(twins, "burn 2;");
        due("none is left", twins.mistaken(), -1);
        TakerTown full = under("person 9 0 0;person 0 0 0;", "face");
        work(full, "again 30[take 0 0 0;];again 9[take 0 0 0;];take 0 1 0;");
        due("the last of 40", full.mistaken(), 39);
    }

    private static void hadThings() {
        current = "had";
        int[][] most = {{0, 5, 1}, {0, 4, 0}, {1, 4, 1}, {1, 6, 0}, {2, 6, 1}, {2, 2, 0}, {3, 2, 1}, {5, 58, 0}, {6, 58, 1}, {5, 59, 1}, {4, 59, 0}};
        for (int[] m : most) {
            TakerTown x = under("person 5 0 0;like " + m[0] + ";", "" + m[1]);
            work(x, "take 0 0 0;");
            due("like " + m[0] + ", shown " + m[1], x.had(), m[2]);
            due("can", x.can(0), m[2]);
        }
        TakerTown x = under("person 0 0 0;person 63 0 0;", "face");
        work(x, "take 0 1 0;");
        due("who took it is not had by it", x.had(), 0);
        work(x, "take 1 1 1;");
        due("by one of two", x.had(), 2);
        law(x, "33");
        due("what a plate shows stays", x.had(), 2);
        work(x, "burn 1;");
        due("not by one that burned", x.had(), 0);
        TakerTown all = under("person 1 0 0;".repeat(8), "1");
        work(all, "take 0 0 0;take 0 1 1;take 0 2 2;take 0 3 3;take 0 4 4;take 0 5 5;take 0 6 0;take 0 7 1;");
        due("all eight", all.had(), 255);
    }

    private static void canThings() {
        current = "can";
        TakerTown x = under("person 0 0 0;person 1 0 0;person 3 0 0;shy 1 0;shy 2 2;like 1;", "face");
        due("he himself, not who never takes him", x.can(0), 1);
        due("with one mark unlike", x.can(1), 7);
        due("not he himself, who never takes himself", x.can(2), 2);
        law(x, "sitter + hall * 60");
        due("in hall 0", x.can(1), 7);
        law(x, "sitter + taken * 60");
        work(x, "take 0 0 0;burn 0;");
        due("as many as he took by now", x.can(1), 6);
        law(x, "sitter + year * 60");
        due("now", x.can(1), 7);
        work(x, "year;");
        due("now", x.can(1), 0);
        law(x, "sitter + mood * 10");
        work(x, "mood 1 3;");
        due("in the mood he is in", x.can(1), 5);
        TakerTown eight = under("person 1 0 0;".repeat(8), "sitter");
        due("all eight", eight.can(7), 255);
        work(eight, "again 30[take 0 0 0;];again 10[take 0 0 0;];");
        due("also if 40 hang", eight.can(7), 255);
    }

    private static void fewestAndCheapest() {
        current = "fewest and cheapest";
        // By can, 0: {2, 3}, 1: {1, 3}, 2: {0, 1, 2}, 3: all.
        TakerTown x = under("person 1 0 9;person 2 0 4;person 3 0 3;person 4 0 7;shy 0 0;shy 1 0;shy 0 1;shy 2 1;shy 3 2;", "sitter");
        int[] can = {12, 10, 7, 15};
        for (int b = 0; b < 4; b++) due("can " + b, x.can(b), can[b]);
        due("of as few the least bits: 1 and 2, not 0 and 3", x.fewest(15), 6);
        due("one told", x.fewest(1), 4);
        due("one who is not told himself", x.fewest(3), 8);
        due("one told", x.fewest(8), 1);
        due("none told", x.fewest(0), 0);
        due("cheapest: the price", x.cheapest(15, 0), 7);
        due("cheapest: who", x.cheapest(15, 1), 6);
        due("as cheap, 1 and 2 or 3: the least bits", x.cheapest(3, 1), 6);
        due("their price", x.cheapest(3, 0), 7);
        due("none told", x.cheapest(0, 0), 0);
        TakerTown y = under("person 1 0 1;person 2 0 1;person 3 0 40;shy 0 1;shy 1 0;", "sitter");
        due("one", y.fewest(3), 4);
        due("two are cheaper", y.cheapest(3, 1), 3);
        due("two are cheaper", y.cheapest(3, 0), 2);
        TakerTown free = under("person 1 0 0;".repeat(8), "sitter");
        due("free, the least bits", free.cheapest(255, 1), 1);
        due("free", free.cheapest(255, 0), 0);
        due("the least bits", free.fewest(255), 1);
        TakerTown own = under("person 9 0 40;".repeat(8), OWN_ONLY);
        due("all eight", own.fewest(255), 255);
        due("the last", own.fewest(128), 128);
        due("all eight", own.cheapest(255, 1), 255);
        due("their price", own.cheapest(255, 0), 320);
        TakerTown one = under("person 9 0 5;person 9 0 6;shy 0 0;shy 1 0;", "sitter");
        due("whom none can take", one.fewest(1), -1);
        due("also with others", one.fewest(3), -1);
        due("not if he is not told", one.fewest(2), 1);
        due("whom none can take", one.cheapest(3, 0), -1);
        due("whom none can take", one.cheapest(3, 1), -1);
        due("not if he is not told", one.cheapest(2, 0), 5);
    }

    private static void nobodyCan() {
        current = "nobody";
        TakerTown x = under("person 9 0 5;person 9 0 6;person 9 0 6;shy 0 0;shy 1 0;shy 2 0;shy 0 2;shy 1 2;shy 2 2;", "sitter");
        due("the first", x.nobody(7), 0);
        due("the first of told ones", x.nobody(6), 2);
        due("the last", x.nobody(4), 2);
        due("none of told ones", x.nobody(2), -1);
        due("none told", x.nobody(0), -1);
        due("none of eight", under("person 9 0 0;".repeat(8), OWN_ONLY).nobody(255), -1);
        due("the last of eight", under("person 9 0 0;".repeat(7) + "person 0 0 0;", "9").nobody(255), 7);
    }

    private static void rings() {
        current = "rings";
        TakerTown all = under("person 9 0 0;".repeat(8), "sitter");
        int[] many = {28, 112, 420, 1344};
        int[] first = {1, 12, 123, 1234};
        for (int n = 2; n <= 5; n++) {
            due("rings of " + n, all.ring(n, 0), many[n - 2]);
            due("the first of " + n, all.ring(n, 1), first[n - 2]);
        }
        for (int n = 2; n <= 5; n++) {
            TakerTown few = under("person 9 0 0;".repeat(n - 1), "sitter");
            due("one too few", few.ring(n, 0), 0);
            due("one too few", few.ring(n, 1), -1);
            int[] rows = {1, 2, 6, 24};
            TakerTown enough = under("person 9 0 0;".repeat(n), "sitter");
            due("just enough", enough.ring(n, 0), rows[n - 2]);
            due("just enough", enough.ring(n, 1), first[n - 2]);
        }
        TakerTown round = under("person 9 0 0;".repeat(3) + "shy 1 0;shy 2 1;shy 0 2;", "sitter");
        due("round", round.ring(3, 0), 1);
        due("round", round.ring(3, 1), 12);
        due("none of two", round.ring(2, 0), 0);
        TakerTown other = under("person 9 0 0;".repeat(3) + "shy 0 1;shy 1 2;shy 2 0;", "sitter");
        due("the other way round", other.ring(3, 1), 21);
        TakerTown open = under("person 9 0 0;".repeat(3) + "shy 1 0;shy 2 1;shy 0 2;shy 2 0;", "sitter");
        due("the last must take the first", open.ring(3, 0), 0);
        due("the last must take the first", open.ring(3, 1), -1);
        TakerTown selves = under("person 9 0 0;".repeat(8), OWN_ONLY);
        due("he himself is no ring", selves.ring(2, 0), 0);
        StringBuilder s = new StringBuilder("person 9 0 0;".repeat(8));
        for (int p = 0; p < 3; p++) for (int b = 0; b < 8; b++) s.append("shy ").append(p).append(' ').append(b).append(';');
        TakerTown last = under(s.toString(), "sitter");
        due("of the last five", last.ring(5, 0), 24);
        due("of the last five", last.ring(5, 1), 34567);
        due("of the last five, two", last.ring(2, 1), 34);
    }

    private static void chains() {
        current = "chains";
        StringBuilder s = new StringBuilder("person 9 0 0;".repeat(8));
        for (int a = 0; a < 8; a++) for (int b = 0; b < 8; b++) if (b != a + 1 && b != a) s.append("shy").append(a).append(' ').append(b).append(';');
        s.append("shy3 3;shy7 7;");
        TakerTown x = under(s.toString(), "sitter");
        for (int b = 0; b < 8; b++) due("from 0 to " + b, x.chain(0, b), b);
        due("from 6 to 7", x.chain(6, 7), 1);
        due("not back", x.chain(7, 0), -1);
        due("not back", x.chain(1, 0), -1);
        due("he himself, also if he never takes himself", x.chain(3, 3), 0);
        due("he himself, also if he never takes himself", x.chain(7, 7), 0);
        TakerTown all = under("person 9 0 0;".repeat(8), "sitter");
        due("one", all.chain(7, 0), 1);
        due("none", all.chain(7, 7), 0);
    }

    private static void whoAndMade() {
        current = "who and made";
        TakerTown x = under("person 60 0 0;person 63 0 0;person 0 0 0;shy 1 2;", "face + own * 3 + hall * 9");
        due("just that, he himself as by own", x.who(63, 0), 3);
        due("the greatest", x.who(63, 1), 2);
        due("no more than 63", x.who(60, 1), 1);
        due("who never takes him does not", x.who(63, 2), 0);
        due("the least", x.who(0, 1), 4);
        due("he himself", x.who(3, 2), 4);
        due("none", x.who(1, 1), 0);
        law(x, "sitter - 1");
        due("no less than 0", x.who(0, 2), 5);
        due("all", x.who(62, 1), 7);
        TakerTown made = townOf("person 3 0 0;person 5 0 0;person 10 0 0;person 12 0 0;person 32 0 0;person 32 0 0;person 0 0 0;");
        due("of as few the least bits: 1 and 2, not 0 and 3", made.made(15), 6);
        due("nothing: nobody, not who has no marks", made.made(0), 0);
        due("of twins the first", made.made(32), 16);
        due("three", made.made(47), 22);
        due("just so, no mark more", made.made(1), -1);
        due("just so, no mark less", made.made(63), -1);
        due("one rather than two", townOf("person 1 0 0;person 2 0 0;person 3 0 0;").made(3), 4);
        TakerTown six = townOf("person 1 0 0;person 2 0 0;person 4 0 0;person 8 0 0;person 16 0 0;person 32 0 0;");
        due("all six", six.made(63), 63);
        TakerTown eight = townOf("person 1 0 0;".repeat(7) + "person 63 0 0;");
        due("the last of eight", eight.made(63), 128);
    }

    private static void unknown(TakerTown x, String text, int... due) {
        words(x, text);
        for (int what = 0; what < 4; what++) due(text + " unknown " + what, x.unknown(what), due[what]);
    }

    private static void unknownFaces() {
        current = "unknown";
        TakerTown x = townOf("person 0 0 0;person 7 0 0;person 63 0 0;");
        unknown(x, "", 64, 0, 0, 0);
        unknown(x, "0 6;", 1, 0, 0, 63);
        unknown(x, "0 0;", 1, 63, 63, 0);
        unknown(x, "0 3;", 20, 7, 0, 0);
        unknown(x, "0 5;", 6, 1, 0, 0);
        unknown(x, "0 1;", 6, 31, 0, 0);
        unknown(x, "0 5;1 4;", 3, 1, 0, 56);
        unknown(x, "0 3;1 6;", 1, 7, 7, 56);
        unknown(x, "2 6;1 3;", 1, 63, 63, 0);
        unknown(x, "0 2;1 5;", 3, 15, 7, 0);
        unknown(x, "0 6;2 6;", 0, -1, 0, 0);
        unknown(x, "0 6;1 3;2 0;", 1, 0, 0, 63);
        unknown(x, "0 6;1 3;2 1;", 0, -1, 0, 0);
    }

    private static void hold(TakerTown x, String text, int who, int left) {
        words(x, text);
        due(text + " hold", x.hold(0), who);
        due(text + " left", x.hold(1), left);
    }

    private static void holdThings() {
        current = "hold";
        hold(townOf("person 0 0 0;person 7 0 0;person 1 0 0;person 8 0 0;"), "0 5;1 4;", 2, 2);
        hold(townOf("person 0 0 0;person 7 0 0;person 8 0 0;person 1 0 0;"), "0 5;1 4;", 3, 2);
        hold(townOf("person 0 0 0;person 7 0 0;person 1 0 0;person 1 0 0;"), "0 5;1 4;", 2, 2);
        TakerTown x = townOf("person 0 0 0;person 7 0 0;person 63 0 0;");
        hold(x, "", 0, 20);
        hold(x, "0 6;", 1, 1);
        hold(x, "1 6;", 0, 1);
        hold(x, "0 6;2 6;", 1, 0);
        hold(x, "0 5;2 1;", 1, 3);
        hold(x, "0 6;1 3;2 0;", -1, -1);
        hold(x, "0 6;1 3;2 1;", -1, -1);
        TakerTown turned = townOf("person 0 0 0;person 63 0 0;");
        for (int i = 0; i < 3; i++) hold(turned, "0 6;", 1, 1);
        for (int i = 0; i < 3; i++) due("asked again", turned.hold(1), 1);
        hold(turned, "", 0, 20);
        TakerTown eight = townOf("person 5 0 0;".repeat(8));
        hold(eight, "0 6;1 6;2 6;3 6;4 6;5 6;6 6;", 7, 1);
        hold(eight, "0 6;1 6;2 6;3 6;4 6;5 6;6 6;7 6;", -1, -1);
    }

    private static void carries(TakerTown x, int most, int... plates) {
        due("papers", x.papers(), most);
        for (int p = 0; p < plates.length; p++) due("paper " + p, x.paper(p), plates[p]);
    }

    private static void papersCarried() {
        current = "papers";
        TakerTown x = townOf("person 0 0 0;person 0 0 0;person 63 0 0;like 0;");
        carries(x, 0, -1, -1, -1);
        work(x, "take 0 0 0;");
        carries(x, 1, 0, -1, -1);
        work(x, "take 0 2 1;take 0 2 1;");
        carries(x, 2, 0, 1, -1);
        work(x, "take 2 0 2;");
        carries(x, 3, 0, 1, 3);
        work(x, "burn 0;");
        carries(x, 3, 0, 1, 2);
        TakerTown later = townOf("person 63 0 0;person 31 0 0;person 0 0 0;person 0 0 0;person 7 0 0;like 0;");
        work(later, "take 2 0 0;take 4 0 0;");
        carries(later, 2, -1, -1, 0, -1, 1);
        // Plates 0 to 7 alone: the ninth would be carried by the last.
        TakerTown nine = townOf("person 0 0 0;person 63 0 0;like 0;");
        work(nine, "again 8[take 0 0 0;];take 1 1 1;");
        carries(nine, 1, 0, -1);
        TakerTown eight = townOf("person 0 0 0;person 63 0 0;like 0;");
        work(eight, "again 7[take 0 0 0;];take 1 1 1;");
        carries(eight, 2, 0, 7);
        // Shown 1, 0, 3: the first may carry 0 and 1, the second 0, 1 and 2, the third 0 and 2: the first of all ways is in order.
        TakerTown ways = under("person 0 0 0;person 1 0 0;person 3 0 0;like 1;", "mood");
        work(ways, "mood 0 1;take 0 0 0;mood 0 0;take 0 0 0;mood 0 3;take 0 0 0;");
        carries(ways, 3, 0, 1, 2);
        // Shown 1, 0: the third may carry 0 alone, the first 0 and 1; with two plates the first has 0, the second 1.
        TakerTown two = under("person 0 0 0;person 1 0 0;person 3 0 0;like 1;", "mood");
        work(two, "mood 0 1;take 0 0 0;mood 0 0;take 0 0 0;");
        carries(two, 2, 0, 1, -1);
        // Shown 0, 3, 12: the third may carry 0 alone, so the first, who may carry 0 and 1, and the second, 0 and 2, leave it.
        TakerTown leave = under("person 1 0 0;person 4 0 0;person 16 0 0;like 1;", "mood * (1 + mood / 4 * 2)");
        work(leave, "take 0 0 0;mood 0 3;take 0 0 0;mood 0 4;take 0 0 0;");
        carries(leave, 3, 1, 2, 0);
        // Shown 0 and 12, as the second hall burned: either of the first and the third may carry 0; none is last.
        TakerTown less = under("person 1 0 0;person 4 0 0;person 16 0 0;like 1;", "mood * (1 + mood / 4 * 2)");
        work(less, "take 0 0 0;mood 0 3;take 0 0 1;mood 0 4;take 0 0 0;burn 1;");
        carries(less, 2, 0, 1, -1);
        TakerTown all = townOf("person 9 0 0;".repeat(8));
        work(all, "again 7[take 0 0 0;];");
        carries(all, 7, 0, 1, 2, 3, 4, 5, 6, -1);
        work(all, "again 30[take 0 0 0;];");
        carries(all, 8, 0, 1, 2, 3, 4, 5, 6, 7);
        int[][] unlike = {{0, 8, -1}, {0, 9, 0}, {1, 8, 0}, {1, 10, -1}, {2, 10, 0}, {5, 54, -1}, {6, 54, 0}};
        for (int[] u : unlike) {
            TakerTown one = under("person 9 0 0;like " + u[0] + ";", "" + u[1]);
            work(one, "take 0 0 0;");
            due("like " + u[0] + ", shown " + u[1], one.paper(0), u[2]);
        }
    }

    private static void bids(int k, int v, int w, int... due) {
        TakerTown x = new TakerTown();
        for (int what = 0; what < 3; what++) due("bids " + k + " " + v + " " + w + " " + what, x.bids(k, v, w, what), due[what]);
    }

    private static void bidsThings() {
        current = "bids";
        bids(0, 0, 0, 1, 0, 0);
        bids(0, 40, 0, 1, 0, 40);
        bids(0, 0, 40, 1, 0, 0);
        // Both worth more than any bid: the first must bid all, whatever the other bids.
        bids(9, 40, 40, 10, 90, 40);
        bids(9, 10, 10, 10, 90, 10);
        // Worth 0 to the second: no bid of his is better than another while he does not get it; or he has it for 0.
        bids(9, 9, 0, 56, 0, 9);
        // Worth 9 to both: also a first who bids less, if the other bids 9, at which he would have 0.
        bids(9, 9, 9, 19, 9, 9);
        bids(1, 0, 0, 3, 0, 0);
        bids(1, 0, 1, 2, 1, 1);
        bids(1, 1, 0, 4, 0, 1);
        // What one has may be less than nothing, and is none that rests then.
        bids(2, 0, 2, 4, 1, 2);
    }

    private static void share(TakerTown x, int persons, int n, int... due) {
        for (int p = 0; p < due.length; p++) due("share of " + p + " of " + n, x.share(p, persons, n), due[p]);
    }

    private static void shares() {
        current = "shares";
        TakerTown x = four();
        share(x, 15, 0, 0, 0, 0, 0);
        share(x, 15, 3, 0, 0, 0, 0);
        share(x, 15, 4, 1, 1, 1, 1);
        share(x, 15, 15, 3, 3, 3, 3);
        share(x, 15, 16, 4, 4, 4, 4);
        share(x, 15, 18, 4, 4, 4, 4);
        share(x, 15, 19, 5, 4, 5, 5);
        share(x, 15, 34, 10, 4, 10, 10);
        share(x, 15, 35, 10, 4, 10, 10);
        share(x, 15, 36, 10, 4, 11, 11);
        share(x, 15, 63, 10, 4, 24, 24);
        share(x, 15, 64, 10, 4, 25, 25);
        share(x, 15, 65, 10, 4, 25, 25);
        share(x, 15, 400, 10, 4, 25, 25);
        share(x, 0, 400, 0, 0, 0, 0);
        share(x, 4, 24, 0, 0, 24, 0);
        share(x, 4, 25, 0, 0, 25, 0);
        share(x, 5, 400, 10, 0, 25, 0);
        TakerTown dear = townOf("person 0 0 40;".repeat(8));
        share(dear, 255, 7, 0, 0, 0, 0, 0, 0, 0, 0);
        share(dear, 255, 8, 1, 1, 1, 1, 1, 1, 1, 1);
        share(dear, 255, 319, 39, 39, 39, 39, 39, 39, 39, 39);
        share(dear, 255, 320, 40, 40, 40, 40, 40, 40, 40, 40);
        share(dear, 255, 400, 40, 40, 40, 40, 40, 40, 40, 40);
        share(townOf("person 0 0 0;person 0 0 1;"), 3, 0, 0, 0);
        share(townOf("person 0 0 0;person 0 0 1;"), 3, 1, 0, 1);
    }

    private static void busiestAndUnseen() {
        current = "busiest and unseen";
        TakerTown x = townOf("person 0 0 0;person 1 0 0;person 2 0 0;");
        due("none hangs", x.busiest(0), -1);
        due("none hangs", x.busiest(1), -1);
        due("all", x.unseen(), 7);
        work(x, "take 2 2 1;");
        due("the last", x.busiest(0), 2);
        due("one", x.busiest(1), 1);
        due("both did", x.unseen(), 3);
        work(x, "take 1 2 0;");
        due("of alike ones the first", x.busiest(0), 1);
        due("he took, he was taken", x.unseen(), 1);
        work(x, "take 2 0 1;burn 1;");
        due("of those that hang", x.busiest(0), 1);
        due("by now, also if it burned", x.unseen(), 0);
        work(x, "burn 0;");
        due("none hangs", x.busiest(0), -1);
        due("none hangs", x.busiest(1), -1);
        due("by now, also if they burned", x.unseen(), 0);
        x.undo();
        x.undo();
        due("not if it was undone", x.unseen(), 1);
        TakerTown full = townOf("person 0 0 0;".repeat(8));
        work(full, "again 30[take 7 7 0;];again 10[take 7 7 0;];");
        due("all 40", full.busiest(1), 40);
        due("the last of eight", full.busiest(0), 7);
        due("seven", full.unseen(), 127);
    }

    private static void whereAndHalls() {
        current = "where and hall";
        TakerTown x = townOf("person 0 0 0;person 63 0 0;");
        due("nowhere", x.where(0), 0);
        work(x, "take 0 1 0;take 0 1 1;take 0 1 2;take 0 1 3;take 0 1 4;take 0 0 5;");
        due("in all halls", x.where(0), 63);
        due("not where he was taken", x.where(1), 0);
        work(x, "take 1 0 5;take 1 0 5;");
        due("in the last", x.where(1), 32);
        answers(x, "hall", 0, 1, 1, 2, 1);
        answers(x, "hall", 5, 3, 3, 1, 3);
        work(x, "burn 5;");
        answers(x, "hall", 5, 0, 0, 0, 0);
        due("not in one that burned", x.where(0), 31);
        due("not in one that burned", x.where(1), 0);
    }

    private static void twinsAndCommon() {
        current = "twins and common";
        String faces = "person 0 0 0;person 1 0 0;person 3 0 0;person 7 0 0;person 15 0 0;person 31 0 0;person 63 0 0;person 0 0 0;";
        int[] first = {129, 131, 135, 143, 159, 191, 255};
        for (int k = 0; k <= 6; k++) {
            TakerTown x = townOf(faces + "like " + k + ";");
            due("twins of the first, like " + k, x.twins(0), first[k]);
            due("twins of the last, like " + k, x.twins(7), first[k]);
        }
        TakerTown x = townOf(faces);
        due("without like", x.twins(6), 96);
        due("he alone", townOf("person 5 0 0;like 0;").twins(0), 1);
        due("no marks", x.common(0), 255);
        due("all marks", x.common(63), 64);
        due("one", x.common(1), 126);
        due("the greatest", x.common(32), 64);
        due("none has them", townOf("person 62 0 0;").common(63), 0);
        due("none has it", townOf("person 62 0 0;").common(1), 0);
        due("he has", townOf("person 62 0 0;").common(62), 1);
        due("unlike", x.unlike(0, 0), 0);
        due("unlike", x.unlike(63, 63), 0);
        due("unlike", x.unlike(0, 63), 6);
        due("unlike", x.unlike(32, 0), 1);
        due("unlike", x.unlike(21, 42), 6);
    }

    private static void looksCounted() {
        current = "looks of a person";
        TakerTown x = townOf("person 0 0 0;person 63 0 0;");
        answers(x, "looks", 0, 0, 0, 0);
        work(x, "take 0 0 0;");
        answers(x, "looks", 0, 1, 0, 0);
        work(x, "take 0 1 1;");
        answers(x, "looks", 0, 2, 1, 0);
        law(x, "63 - face");
        work(x, "take 1 0 1;take 1 1 1;");
        answers(x, "looks", 0, 4, 2, 2);
        answers(x, "looks", 1, 0, 0, 0);
        work(x, "burn 1;");
        answers(x, "looks", 0, 1, 0, 0);
        work(x, "again 30[take 0 1 0;];again 9[take 0 0 0;];");
        answers(x, "looks", 1, 39, 9, 39);
    }

    private static void moodsFor() {
        current = "mood for";
        TakerTown x = under("person 0 0 0;person 63 0 0;shy 0 1;shy 1 1;", "63 * (mood / 9)");
        due("none, he never does", x.moodFor(0, 1), -1);
        due("the first", x.moodFor(1, 0), 0);
        due("none, himself", x.moodFor(1, 1), -1);
        TakerTown y = under("person 63 0 0;person 9 0 0;like 0;", "63 * (mood / 9)");
        due("the greatest", y.moodFor(1, 0), 9);
        due("none", y.moodFor(0, 1), -1);
        for (int m = 0; m <= 9; m++) {
            law(y, "63 * (1 - most[mood - " + m + ", " + m + " - mood])");
            due("just " + m, y.moodFor(0, 0), m);
        }
        work(y, "mood 0 5;mood 1 7;");
        law(y, "sitter * (mood % 2)");
        due("the least, whatever it is now", y.moodFor(0, 1), 1);
        due("it stays", y.person(0, 3), 5);
        law(y, "sitter + hall");
        due("in hall 0", y.moodFor(0, 1), 0);
    }

    private static void lostThings() {
        current = "lost";
        TakerTown x = townOf("person 0 0 0;person 63 0 0;");
        due("none hangs", x.lost(0), 0);
        work(x, "take 0 0 0;take 0 0 0;");
        due("two in one hall", x.lost(0), 1);
        due("another hall", x.lost(5), 0);
        work(x, "take 1 1 5;");
        due("the last hall", x.lost(5), 2);
        work(x, "take 0 0 5;");
        due("he is had in another one", x.lost(0), 0);
        due("so is he not lost", x.lost(5), 2);
        work(x, "take 0 1 4;");
        due("who is not had there is not lost", x.lost(4), 0);
        due("they hang still", x.told(1), 5);
        TakerTown eight = under("person 9 0 0;".repeat(8), "9");
        work(eight, "take 0 0 3;take 0 1 3;take 0 2 3;take 0 3 3;take 0 4 3;take 0 5 3;take 0 6 3;take 0 7 3;");
        due("all eight", eight.lost(3), 255);
    }

    private static void facesThings() {
        current = "faces";
        TakerTown x = under("person 0 0 0;person 63 0 0;", "face + taken");
        answers(x, "faces", 0, 0, -1, -1);
        work(x, "take 0 1 0;");
        answers(x, "faces", 0, 1, 0, 0);
        answers(x, "faces", 1, 0, -1, -1);
        work(x, "take 1 0 1;take 1 0 1;");
        answers(x, "faces", 1, 1, 63, 63);
        law(x, "taken * 63");
        work(x, "burn 1;take 0 0 1;");
        answers(x, "faces", 1, 0, -1, -1);
        answers(x, "faces", 0, 2, 0, 63);
        TakerTown full = under("person 0 0 0;", "taken");
        work(full, "again 30[take 0 0 0;];again 10[take 0 0 0;];");
        answers(full, "faces", 0, 40, 0, 39);
    }

    private static void years(TakerTown x, int seed, int takes, int q, int... due) {
        for (int what = 0; what < 4; what++) {
            due("years " + seed + " " + takes + " " + q + " " + what, x.years(seed, takes, q, what), due[what]);
        }
    }

    /** Worked out apart from the class and the model. */
    private static void yearsAtEdges() {
        current = "years by seeds";
        TakerTown x = four();
        years(x, 0, 1, 0, 1, 0, 0, 1);
        years(x, 0, 1, 16, 0, 0, 1, 0);
        years(x, 0, 1, 5, 1, 0, 0, 1);
        years(x, 0, 1, 6, 0, 0, 1, 0);
        years(x, 0, 4, 8, 1, 1, 2, 1);
        years(x, 0, 5, 8, 1, 2, 2, 1);
        years(x, 0, 96, 0, 40, 56, 0, 4);
        years(x, 0, 96, 16, 0, 11, 85, 0);
        years(x, 0, 96, 3, 15, 11, 19, 4);
        years(x, 1, 1, 0, 0, 1, 0, 0);
        years(x, 1, 1, 16, 0, 1, 0, 0);
        years(x, 1, 96, 16, 0, 14, 82, 0);
        years(x, 1, 96, 3, 7, 14, 22, 2);
        years(x, -1, 5, 8, 5, 0, 0, 2);
        years(x, -1, 96, 3, 9, 7, 18, 4);
        years(x, Integer.MAX_VALUE, 96, 16, 0, 7, 89, 0);
        years(x, Integer.MIN_VALUE, 96, 3, 15, 11, 19, 4);
        years(x, 123456789, 96, 3, 16, 9, 18, 4);
        due("nothing stays changed", x.told(6), 0);
        due("nothing stays changed", x.told(2), 0);
        due("nothing stays changed", x.count(2), 0);
        alike("years", x, four());
    }

    private static void yearsByState() {
        current = "years from now on";
        TakerTown x = townOf("person 5 0 0;");
        work(x, "again 30[take 0 0 0;];again 9[take 0 0 0;];");
        years(x, 7, 1, 0, 40, 0, 0, 1);
        years(x, 7, 2, 0, 40, 1, 0, 1);
        work(x, "take 0 0 1;");
        years(x, 7, 96, 0, 40, 96, 0, 1);
        // The hall drawn by seed 0 is 4, where none hangs, and the take can't be done: nothing burns.
        years(x, 0, 1, 16, 40, 1, 0, 1);
        work(x, "burn 1;take 0 0 4;");
        years(x, 0, 1, 16, 39, 1, 1, 1);
        TakerTown mood = under("person 5 0 0;", "sitter + mood * 7");
        work(mood, "mood 0 1;");
        years(mood, 3, 4, 0, 4, 0, 0, 0);
        years(mood, 3, 5, 0, 5, 0, 0, 1);
        due("his mood stays", mood.person(0, 3), 1);
        TakerTown taken = under("person 3 0 0;like 0;", "taken");
        years(taken, 3, 3, 0, 3, 0, 0, 0);
        years(taken, 3, 4, 0, 4, 0, 0, 1);
        work(taken, "take 0 0 0;take 0 0 0;burn 0;");
        years(taken, 3, 1, 0, 1, 0, 0, 0);
        years(taken, 3, 2, 0, 2, 0, 0, 1);
        due("as many as he took", taken.person(0, 4), 2);
        TakerTown late = under("person 5 0 0;like 0;", "5 * (year / 209)");
        work(late, "again 30[again 5[year;];];");
        work(late, "again 30[year;];again 20[year;];");
        due("200", late.told(2), 200);
        due("all burn, and it is 222 at last", late.years(3, 92, 16, 2), 92);
        due("behind 36 takes", late.years(3, 36, 0, 3), 0);
        due("year 209", late.years(3, 37, 0, 3), 1);
        due("the year stays", late.told(2), 200);
        TakerTown shy = townOf("person 5 0 0;shy 0 0;");
        years(shy, 3, 96, 16, 0, 96, 0, 0);
    }

    private static void spans() {
        current = "spans";
        TakerTown x = four();
        int[] had = {4, 2, 3, 4};
        for (int p = 0; p < 4; p++) due("had " + p, x.span(Integer.MAX_VALUE - 2, 6, 30, 6, 2, p), had[p]);
        due("fewest", x.span(Integer.MAX_VALUE - 2, 6, 30, 6, 0, 3), 2);
        due("most", x.span(Integer.MAX_VALUE - 2, 6, 30, 6, 1, 0), 14);
        had = new int[] {16, 15, 13, 17};
        for (int p = 0; p < 4; p++) due("had " + p, x.span(0, 20, 96, 3, 2, p), had[p]);
        due("fewest", x.span(0, 20, 96, 3, 0, 0), 6);
        due("most", x.span(0, 20, 96, 3, 1, 0), 40);
        had = new int[] {7, 5, 6, 5};
        for (int p = 0; p < 4; p++) due("had " + p, x.span(-10, 20, 12, 9, 2, p), had[p]);
        due("fewest", x.span(-10, 20, 12, 9, 0, 0), 0);
        due("most", x.span(-10, 20, 12, 9, 1, 0), 6);
        due("one seed", x.span(0, 1, 1, 0, 2, 0), 1);
        due("one seed", x.span(0, 1, 1, 0, 0, 0), 1);
        due("one seed", x.span(0, 1, 1, 0, 1, 0), 1);
        due("another has none", x.span(0, 1, 1, 0, 2, 1), 0);
        due("from the greatest to the least", x.span(Integer.MAX_VALUE, 2, 1, 0, 2, 0), 1);
        due("from the greatest to the least", x.span(Integer.MAX_VALUE, 2, 1, 0, 2, 1), 1);
        due("each begins as it is now", townOf("person 5 0 0;").span(9, 20, 2, 0, 1, 0), 2);
        due("all full", townOf("person 5 0 0;").span(9, 20, 40, 0, 0, 0), 40);
        due("all empty", townOf("person 5 0 0;").span(9, 20, 40, 16, 1, 0), 0);
        alike("spans", x, four());
    }
}
