import java.util.List;

/** The edges of the four texts: their bytes, how many of each thing, each number's least and most, faults and their places. */
public final class TextEdgesTest extends Check {
    private static final List<String> UNTOUCHED = picture(standing());

    public static void main(String[] args) {
        tape();
        townBytes();
        townCounts();
        townNumbers();
        townFaults();
        townAnew();
        lawBytes();
        lawValues();
        lawWraps();
        lawOpen();
        lawFaults();
        workBytes();
        workNumbers();
        workOpen();
        workFaults();
        wordsEdges();
        wordsFaults();
        numbersAndBlanks();
        faultPlaces();
        cutOff();
        end("the texts hold at their edges");
    }

    /** A text with a fault: its answer, its place, an empty tape, and all else as it was. */
    private static void fault(String name, String text, int answer, int place) {
        TakerTown x = standing();
        due(name + " " + text, ask(x, name, put(x, text)), "" + answer);
        due("place of the fault of " + text, x.fault(), place);
        due("tape behind " + text, x.count(1), 0);
        due("refusals behind " + text, x.status(0) + " " + x.status(1), "1 2");
        // The fault that stood there ahead of this one, so that the pictures can be alike.
        law(x, "1+?");
        List<String> picture = picture(x);
        for (int i = 0; i < UNTOUCHED.size(); i++) due("behind " + text, picture.get(i), UNTOUCHED.get(i));
    }

    /** A text without a fault. */
    private static TakerTown right(TakerTown x, String name, String text, int answer) {
        due(name + " " + text, ask(x, name, put(x, text)), "" + answer);
        due("no fault of " + text, x.fault(), TakerTown.NONE);
        due("tape behind " + text, x.count(1), 0);
        return x;
    }

    private static void tape() {
        current = "tape";
        TakerTown x = new TakerTown();
        due("a new one is empty", x.count(1), 0);
        due("the first twenty", x.feed(0, 0, 0, 0, 0), 20);
        due("no byte is read", x.town(0), 0);
        due("but the tape is empty then", x.count(1), 0);
        String text = "person 1 2 3;" + " ".repeat(566) + "person 63 9 40; like;";
        due("600 bytes", put(x, text.substring(0, 580)), 580);
        due("580 of them", x.count(1), 580);
        due("up to 600", x.feed(word(text, 580), word(text, 584), word(text, 588), word(text, 592), word(text, 596)), 600);
        due("not beyond", x.feed(0x3b3b3b3b, 0x3b3b3b3b, 0x3b3b3b3b, 0x3b3b3b3b, 0x3b3b3b3b), TakerTown.NONE);
        due("600 stay", x.count(1), 600);
        due("which are the ones that were fed", x.town(600), -9);
        due("up to the last byte", x.fault(), 599);
        due("empty then", x.count(1), 0);
        due("and fed anew", x.feed(0, 0, 0, 0, 0), 20);
        // Each byte from 0 to 255 comes as it is: no sign of a number may spill over into the bytes behind.
        TakerTown y = new TakerTown();
        y.feed(0x6c696b65, 0x2036ff3b, 0x80000000, -1, Integer.MIN_VALUE);
        due("a byte of 255", y.town(8), -9);
        due("at its place", y.fault(), 6);
        y.feed(0x6c696b65, 0x20363b80, -1, -1, -1);
        due("behind what is right", y.town(7), 0);
        due("K", y.told(3), 6);
        y.feed(0x6c696b65, 0x20363bb5, -1, -1, -1);
        due("a byte that is ; and 128 less a sign", y.town(8), -9);
        due("at its place", y.fault(), 7);
    }

    private static int word(String text, int at) {
        return text.charAt(at) << 24 | text.charAt(at + 1) << 16 | text.charAt(at + 2) << 8 | text.charAt(at + 3);
    }

    private static void townBytes() {
        current = "a town's bytes";
        right(new TakerTown(), "town", "", 0);
        right(new TakerTown(), "town", " ", 0);
        right(new TakerTown(), "town", " ".repeat(600), 0);
        right(new TakerTown(), "town", " ".repeat(585) + "person 63 9 40;", 1);
        right(new TakerTown(), "town", "like 6;" + " ".repeat(593), 0);
        fault("town", " ".repeat(599) + ";", -9, 599);
        fault("town", " ".repeat(596) + "like", -9, 600);
        fault("town", " ".repeat(595) + "like1", -9, 600);
        fault("town", " ".repeat(597) + "lik", -9, 597);
        fault("town", " ".repeat(593) + "like  9", -8, 599);
        TakerTown x = new TakerTown();
        put(x, "like 6;like 2;");
        due("only the first n bytes", x.town(7), 0);
        due("of the tape", x.told(3), 6);
        due("what was behind them is gone", x.count(1), 0);
    }

    private static void townCounts() {
        current = "how many in a town";
        right(new TakerTown(), "town", "person 0 0 0;".repeat(8), 8);
        fault("town", "person 0 0 0;".repeat(9), -7, 104);
        fault("town", "person 0 0 0;".repeat(8) + "like 1;  person", -7, 113);
        TakerTown x = right(new TakerTown(), "town", "person 0 0 0;".repeat(8) + "shy 7 7;".repeat(51) + "like 0;", 8);
        due("the 60th clause", x.told(3), 0);
        due("told often, one pair", x.told(8), 1);
        fault("town", "like 0;".repeat(60) + "like 0;", -7, 420);
        fault("town", "like 0;".repeat(60) + "  shy 0 0;", -7, 422);
        fault("town", "like 0;".repeat(60) + "person", -7, 420);
        right(new TakerTown(), "town", "like 0;".repeat(60) + "   ", 0);
        fault("town", "person 0 0 0;".repeat(8) + "like 0;".repeat(52) + "person 0 0 0;", -7, 468);
        // Of two faults at one place the least: a word that is none, where a 61st clause would be one too many.
        fault("town", "like 0;".repeat(60) + "lik 0;", -9, 420);
        fault("town", "like 0;".repeat(60) + "0", -9, 420);
        fault("town", "person 0 0 0;".repeat(8) + "persons 0 0 0;", -9, 104);
        // All 64 pairs.
        StringBuilder s = new StringBuilder("person 0 0 0;".repeat(8));
        for (int i = 0; i < 52; i++) s.append("shy").append(i / 8).append(' ').append(i % 8).append(';');
        TakerTown shy = right(new TakerTown(), "town", s.toString(), 8);
        due("pairs", shy.told(8), 52);
        due("of the first", shy.person(0, 6), 255);
        due("of the seventh", shy.person(6, 6), 15);
        due("of the last", shy.person(7, 6), 0);
    }

    private static void townNumbers() {
        current = "a town's numbers";
        TakerTown x = right(new TakerTown(), "town", "person 0 0 0;person 63 9 40;shy 1 1;like 6;", 2);
        int[] least = {0, 0, 0, 0, 0, 0, 0};
        int[] most = {63, 9, 40, 0, 0, 0, 2};
        for (int what = 0; what <= 6; what++) {
            due("the least, " + what, x.person(0, what), least[what]);
            due("the most, " + what, x.person(1, what), most[what]);
        }
        due("like 6", x.told(3), 6);
        due("like 0", right(new TakerTown(), "town", "like 6;like 0;", 0).told(3), 0);
        due("without", right(new TakerTown(), "town", "person 1 1 1;", 1).told(3), 1);
        due("without, behind a town with", right(x, "town", "", 0).told(3), 1);
        due("the last counts", right(new TakerTown(), "town", "like 2;like 5;like 3;", 0).told(3), 3);
        fault("town", "person 64 0 0;", -8, 7);
        fault("town", "person 0 10 0;", -8, 9);
        fault("town", "person 0 0 41;", -8, 11);
        fault("town", "person -1 0 0;", -9, 7);
        fault("town", "person 0 -1 0;", -9, 9);
        fault("town", "person 0 0 -1;", -9, 11);
        fault("town", "like 7;", -8, 5);
        fault("town", "like -1;", -9, 5);
        // A person is told ahead, or is none such.
        fault("town", "shy 0 0;", -8, 4);
        fault("town", "shy 0 0;person 0 0 0;", -8, 4);
        fault("town", "person 0 0 0;shy 1 0;", -8, 17);
        fault("town", "person 0 0 0;shy 0 1;", -8, 19);
        fault("town", "person 0 0 0;shy 0 1;person 0 0 0;", -8, 19);
        fault("town", "person 0 0 0;".repeat(8) + "shy 8 0;", -8, 108);
        fault("town", "person 0 0 0;".repeat(8) + "shy 0 8;", -8, 110);
        due("the last of two", right(new TakerTown(), "town", "person 0 0 0;person 0 0 0;shy 1 0;", 2).person(1, 6), 1);
        due("he himself", right(new TakerTown(), "town", "person 0 0 0;shy 0 0;", 1).person(0, 6), 1);
    }

    private static void townFaults() {
        current = "a town's faults";
        fault("town", ";", -9, 0);
        fault("town", "like 1;;", -9, 7);
        fault("town", "like 1", -9, 6);
        fault("town", "like 1   ", -9, 9);
        fault("town", "like", -9, 4);
        fault("town", "like  ;", -9, 6);
        fault("town", "like 1 2;", -9, 7);
        fault("town", "person 1 2;", -9, 10);
        fault("town", "person 1 2 3", -9, 12);
        fault("town", "person 1 2 3 4;", -9, 13);
        fault("town", "person", -9, 6);
        fault("town", "person 1", -9, 8);
        fault("town", "person 1 2", -9, 10);
        fault("town", "pers", -9, 0);
        fault("town", "take 0 0 0;", -9, 0);
        fault("town", "person 1 2 3;shy", -9, 16);
        fault("town", "person 1 2 3;shy 0", -9, 18);
        fault("town", "person 1 2 3;shy 0;", -9, 18);
        fault("town", "like 1,", -9, 6);
        fault("town", "like\t1;", -9, 4);
        fault("town", "like 1;\0", -9, 7);
        fault("town", "LIKE 1;", -9, 0);
        fault("town", "like{1;", -9, 4);
        fault("town", "like`1;", -9, 4);
        fault("town", "like 1:", -9, 6);
        fault("town", "like /;", -9, 5);
        fault("town", "like :;", -9, 5);
    }

    /** Behind a new town nothing of the old one is left: year, moods, plates, law, words, images, works. */
    private static void townAnew() {
        current = "a town anew";
        TakerTown x = standing();
        due("town", town(x, FOUR), 4);
        due("no fault", x.fault(), -1);
        TakerTown y = four();
        List<String> got = picture(x);
        List<String> want = picture(y);
        for (int i = 0; i < want.size(); i++) due("as a town of a new object", got.get(i), want.get(i));
        TakerTown z = standing();
        due("no persons", z.town(0), 0);
        got = picture(z);
        want = picture(new TakerTown());
        for (int i = 0; i < want.size(); i++) due("as a new object", got.get(i), want.get(i));
    }

    private static void lawBytes() {
        current = "a law's bytes";
        TakerTown x = four();
        due("without", x.would(7, 0, 3, 0, 0, 0, 0, 0), 10);
        due("150 bytes, the last of them too", value(x, "1" + "+0".repeat(74) + "7"), 8);
        due("150 bytes, blanks ahead", value(x, " ".repeat(149) + "9"), 9);
        due("150 bytes, blanks behind", value(x, "5" + " ".repeat(149)), 5);
        due("one byte", value(x, "4"), 4);
        put(x, "62+1");
        due("only the first n bytes", x.law(2), 1);
        due("of the tape", x.would(0, 0, 0, 0, 0, 0, 0, 0), 62);
        due("what was behind them is gone", x.count(1), 0);
        fault("law", "1" + "+0".repeat(74) + "+", -9, 150);
        fault("law", " ".repeat(150), -9, 150);
        fault("law", "", -9, 0);
        work(x, "take 0 0 0;year;");
        words(x, "0 6;");
        x.image();
        x.undo();
        x.restore();
        due("it stays behind all but a town", x.would(0, 0, 0, 0, 0, 0, 0, 0), 62);
        town(x, FOUR);
        due("behind a town it is the usual one", x.would(7, 0, 3, 0, 0, 0, 0, 0), 10);
        right(new TakerTown(), "law", "sitter", 1);
    }

    private static void lawValues() {
        current = "a law's values";
        TakerTown x = four();
        String[] texts = {"0-999", "0-1", "0", "1", "62", "63", "64", "999", "0000999", "2+3*4", "(2+3)*4", "20-5-3",
            "20-(5-3)", "48/4/3", "50%7*2", "2*7%4", "20/3*3", "7%4/2", "40-8/2", "40-9%4", "1+50%8-2*1"};
        int[] due = {0, 0, 0, 1, 62, 63, 63, 63, 63, 14, 20, 12, 18, 4, 2, 2, 18, 1, 36, 39, 1};
        for (int i = 0; i < texts.length; i++) due(texts[i], value(x, texts[i]), due[i]);
        String[] cut = {"7/2", "(0-7)/2+9", "7/(0-2)+9", "(0-7)/(0-2)", "(0-1)/2+9", "1/2+9", "7%4", "(0-7)%4+9", "7%(0-4)",
            "(0-7)%(0-4)+9", "(0-8)%4+9", "7/0+5", "(0-7)/0+5", "7%0+5", "(0-7)%0+5", "0/0+5", "0%0+5", "5/(3-3)+1", "9/1", "9%1"};
        int[] left = {3, 6, 6, 3, 9, 9, 3, 6, 3, 6, 9, 5, 5, 5, 5, 5, 5, 1, 9, 0};
        for (int i = 0; i < cut.length; i++) due(cut[i], value(x, cut[i]), left[i]);
        String[] two = {"least[5,5]", "least[2,3]", "least[3,2]", "least[0-5,3]+9", "least[0-5,0-6]+9", "most[5,5]", "most[2,3]",
            "most[3,2]", "most[0-5,0]+9", "most[0-5,0-6]+9", "least[1+1,2*2]*most[3,4]-1", "most[least[1,9],least[8,5]]"};
        int[] one = {5, 2, 2, 4, 3, 5, 3, 3, 9, 4, 7, 5};
        for (int i = 0; i < two.length; i++) due(two[i], value(x, two[i]), one[i]);
        String[] words = {"face", "temper", "mood", "sitter", "own", "year", "taken", "hall"};
        int[] given = {11, 7, 8, 13, 1, 17, 19, 5};
        for (int i = 0; i < words.length; i++) {
            law(x, words[i]);
            due(words[i], x.would(11, 7, 8, 13, 1, 17, 19, 5), given[i]);
            due(words[i] + " at least", x.would(0, 0, 0, 0, 0, 0, 0, 0), 0);
        }
    }

    private static void lawWraps() {
        current = "a law's values wrap";
        TakerTown x = four();
        String least = "512*512*512*16";
        due("the least number there is", value(x, least), 0);
        due("one less is the greatest", value(x, least + "-1"), 63);
        due("and one more the least", value(x, least + "-1+1"), 0);
        due("nothing less the least is the least", value(x, "0-" + least), 0);
        due("twice the least is nothing", value(x, least + "*2+3"), 3);
        due("the least and the least are nothing", value(x, least + "+" + least + "+3"), 3);
        due("it wraps ahead of a division", value(x, "512*512*512*32/2+3"), 3);
        due("it wraps to below nothing", value(x, least + "/512/512/512+20"), 4);
        due("what is left has the sign", value(x, "(" + least + "-1+2)%512+522"), 11);
        due("the least by 1 less than nothing wraps", value(x, least + "/(0-1)+" + least + "+7"), 7);
        due("and leaves nothing", value(x, least + "%(0-1)+5"), 5);
        due("999 four times", value(x, "999*999*999*999%64+40"), 9);
        due("of the least and the greatest", value(x, "least[" + least + "," + least + "-1]/512/512/512+20"), 4);
        due("of the least and the greatest", value(x, "most[" + least + "," + least + "-1]/512/512/512+20"), 35);
    }

    private static void lawOpen() {
        current = "what is open in a law";
        TakerTown x = four();
        due("six (", value(x, "(".repeat(6) + "1" + ")".repeat(6)), 1);
        due("six least, in the one", value(x, "least[".repeat(6) + "1" + ",2]".repeat(6)), 1);
        due("six least, in the other", value(x, "least[2,".repeat(6) + "1" + "]".repeat(6)), 1);
        due("six most, in the one", value(x, "most[".repeat(6) + "1" + ",2]".repeat(6)), 2);
        due("six most, in the other", value(x, "most[2,".repeat(6) + "3" + "]".repeat(6)), 3);
        due("what is closed is not open", value(x, "(((((" + "(1)+(2)*(3)" + ")))))"), 7);
        due("what is closed is not open", value(x, "most[(((((1))))),(((((2)))))]"), 2);
        due("as much as can wait", value(x, "1+1*most[1,".repeat(6) + "1+1*1" + "]".repeat(6)), 8);
        fault("law", "(".repeat(7), -7, 6);
        fault("law", "(".repeat(6) + "1+  (1", -7, 10);
        fault("law", "least[".repeat(7), -7, 36);
        fault("law", "least[1,".repeat(7), -7, 48);
        fault("law", "most[".repeat(7), -7, 30);
        fault("law", "most[1, ".repeat(7), -7, 48);
        fault("law", "(least[(most[1,(least[1,", -9, 24);
        fault("law", "(least[(most[1,(least[1,(", -7, 24);
        fault("law", "(least[(most[1,(least[1, most", -7, 25);
        fault("law", "(least[(most[1,(least[1, least[1", -7, 25);
        fault("law", "((((((most", -7, 6);
        fault("law", "((((((least 7", -7, 6);
        // Of two faults at one place the least: a word that is none, where one more would be one too many.
        fault("law", "((((((mos[", -9, 6);
        fault("law", "((((((leastmost[", -9, 6);
        fault("law", "((((((1000", -8, 6);
        fault("law", "((((((", -9, 6);
    }

    private static void lawFaults() {
        current = "a law's faults";
        String[] texts = {"   ", "+1", "1+", "1 +", "1++1", "1-", "2**3", "2*", "2/", "2%", "1%%1", "1 1", "face mood", "()", "(1", "1)",
            "(1]", "(1,1)", "[1]", "least", "least 1", "least(1,1)", "least[1", "least[1]", "least[1,", "least[1,1", "least[1,1)", "least[,1]",
            "most[1;1]", "most[1,1,1]", "1,1", "1]", "faces", "fac", "Face", "facemood", "face1", "1face", "1;", "-1", "1.5", "take",
            "1\t+1", "1" + (char) 160, "^"};
        int[] places = {3, 0, 2, 3, 2, 2, 2, 2, 2, 2, 2, 2, 5, 1, 2, 1,
            2, 2, 0, 5, 6, 5, 7, 7, 8, 9, 9, 6,
            6, 8, 1, 1, 0, 0, 0, 0, 4, 1, 1, 0, 1, 0,
            1, 1, 0};
        for (int i = 0; i < texts.length; i++) fault("law", texts[i], -9, places[i]);
        fault("law", "1000", -8, 0);
        fault("law", "1+1000", -8, 2);
        fault("law", "1 + 001000", -8, 4);
        fault("law", "(1000", -8, 1);
        fault("law", "least[1,1000", -8, 8);
    }

    private static void workBytes() {
        current = "a work's bytes";
        due("nothing", right(four(), "work", "", 0).count(2), 1);
        due("blanks", right(four(), "work", "   ", 0).count(2), 1);
        right(four(), "work", " ".repeat(150), 0);
        right(four(), "work", "year;".repeat(30), 30);
        right(four(), "work", " ".repeat(145) + "year;", 1);
        right(four(), "work", "year;" + " ".repeat(145), 1);
        right(four(), "work", "again30[" + "year;".repeat(28) + "];", 199);
        fault("work", "year;".repeat(29) + "year ", -9, 150);
        fault("work", "year;".repeat(29) + "burn0", -9, 150);
        fault("work", "year;".repeat(29) + "again", -9, 150);
        fault("work", " ".repeat(149) + ";", -9, 149);
        TakerTown x = four();
        put(x, "year;year;");
        due("only the first n bytes", x.work(5), 1);
        due("of the tape", x.told(2), 1);
        due("what was behind them is gone", x.count(1), 0);
    }

    private static void workNumbers() {
        current = "a work's numbers";
        due("the last", right(four(), "work", "take 3 3 5;", 1).plate(0, 2), 5);
        due("the first", right(four(), "work", "take 0 0 0;", 1).plate(0, 2), 0);
        due("the most", right(four(), "work", "mood 3 9;", 1).person(3, 3), 9);
        due("the least", right(four(), "work", "mood 0 1;mood 0 0;", 2).person(0, 3), 0);
        due("the last", right(four(), "work", "take 0 0 5;burn 5;", 2).told(7), 1);
        due("the first", right(four(), "work", "take 0 0 0;burn 0;", 2).told(7), 1);
        due("the most", right(four(), "work", "again 30[year;];", 30).told(2), 30);
        due("none", right(four(), "work", "again 0[year;];", 0).told(2), 0);
        due("one", right(four(), "work", "again 1[year;];", 1).told(2), 1);
        right(four(), "work", "again 30[];", 0);
        right(four(), "work", "again 30[ ] ; ", 0);
        fault("work", "take 4 0 0;", -8, 5);
        fault("work", "take 0 4 0;", -8, 7);
        fault("work", "take 0 0 6;", -8, 9);
        fault("work", "take -1 0 0;", -9, 5);
        fault("work", "mood 4 0;", -8, 5);
        fault("work", "mood 0 10;", -8, 7);
        fault("work", "burn 6;", -8, 5);
        fault("work", "again 31[];", -8, 6);
        fault("work", "again 0[burn 6;];", -8, 13);
        due("nobody is there", work(new TakerTown(), "take 0 0 0;"), -8);
        due("nobody is there", work(new TakerTown(), "mood 0 0;"), -8);
        due("but years are", work(new TakerTown(), "year;burn 0;"), 1);
        TakerTown eight = townOf("person 1 1 1;".repeat(8));
        right(eight, "work", "take 7 7 0;mood 7 9;", 2);
        due("the ninth", work(eight, "take 8 0 0;"), -8);
        due("the ninth", work(eight, "take 0 8 0;"), -8);
        due("the ninth", work(eight, "mood 8 0;"), -8);
    }

    private static void workOpen() {
        current = "what is open in a work";
        right(four(), "work", "again1[".repeat(6) + "year;" + "];".repeat(6), 1);
        right(four(), "work", "again2[".repeat(6) + "year;" + "];".repeat(6), 64);
        right(four(), "work", "again1[".repeat(5) + "again1[year;];again1[year;];" + "];".repeat(5), 2);
        right(four(), "work", ("again1[".repeat(6) + "];".repeat(6)).repeat(2), 0);
        fault("work", "again1[".repeat(7), -7, 42);
        fault("work", "again1[".repeat(6) + "year;  again", -7, 49);
        fault("work", "again0[".repeat(6) + "again 99", -7, 42);
        // Of two faults at one place the least: a word that is none, where one more would be one too many.
        fault("work", "again1[".repeat(6) + "agains 1[", -9, 42);
        fault("work", "again1[".repeat(6) + "[", -9, 42);
        fault("work", "again1[".repeat(6), -9, 42);
    }

    private static void workFaults() {
        current = "a work's faults";
        String[] texts = {";", "year", "year  ", "year;;", "years;", "yea;", "Year;", "year 1;", "take", "take 0", "take 0 0", "take 0 0;",
            "take 0 0 0", "take 0 0 0 0;", "take;", "mood", "mood 0", "mood 0;", "mood 0 1", "burn", "burn;", "burn 0", "burn 0 0;",
            "again", "again[];", "again 1", "again 1;", "again 1 year;", "again 1(", "again 1[", "again 1[year", "again 1[year]", "again 1[year;",
            "again 1[year;]", "again 1[year;)", "again 1[];]", "]", "again 1[;];", "face;", "1;", "take,0 0 0;", "year" + (char) 59 + (char) 200};
        int[] places = {0, 4, 6, 5, 0, 0, 0, 5, 4, 6, 8, 8,
            10, 11, 4, 4, 6, 6, 8, 4, 4, 6, 7,
            5, 5, 7, 7, 8, 7, 8, 12, 12, 13,
            14, 13, 10, 0, 8, 0, 0, 4, 5};
        for (int i = 0; i < texts.length; i++) fault("work", texts[i], -9, places[i]);
        // None of its steps is done, also of those ahead of the fault.
        fault("work", "take 0 0 0;year;mood 0 9;burn 0;burn 1;nothing", -9, 39);
    }

    private static void wordsEdges() {
        current = "words";
        TakerTown x = townOf("person 0 0 0;person 63 0 0;".repeat(4));
        due("none", right(x, "words", "", 0).unknown(0), 64);
        due("blanks", right(x, "words", " ".repeat(60), 0).unknown(0), 64);
        due("eight lines", right(x, "words", "0 6;1 0;2 6;3 0;4 6;5 0;6 6;7 0;", 8).unknown(1), 0);
        due("told", x.told(4), 8);
        due("in any order", right(x, "words", "7 6;0 0;", 2).unknown(1), 63);
        due("lines that were there are gone", x.told(4), 2);
        due("60 bytes, the last of them too", right(x, "words", " ".repeat(56) + "0 6;", 1).unknown(0), 1);
        due("60 bytes", right(x, "words", "1 0" + " ".repeat(56) + ";", 1).unknown(1), 0);
        due("the least", right(x, "words", "0 0;", 1).unknown(1), 63);
        due("the most", right(x, "words", "0 6;", 1).unknown(1), 0);
        work(x, "take 0 0 0;year;");
        law(x, "1");
        x.image();
        x.undo();
        x.restore();
        due("they stay behind all but a town", x.told(4), 1);
        due("none behind a town", town(x, FOUR), 4);
        due("none", x.told(4), 0);
        due("none", x.unknown(0), 64);
        put(x, "0 6;1 6;");
        due("only the first n bytes", x.words(4), 1);
        due("what was behind them is gone", x.count(1), 0);
        right(new TakerTown(), "words", "", 0);
        due("nobody is there", words(new TakerTown(), "0 0;"), -8);
    }

    private static void wordsFaults() {
        current = "faults of words";
        fault("words", "4 0;", -8, 0);
        fault("words", "0 7;", -8, 2);
        fault("words", "3 6;0 6;1 6;2 6;4 0;", -8, 16);
        fault("words", "0 0;0 0;", -8, 4);
        fault("words", "0 0;1 0;  00 0;", -8, 10);
        fault("words", "0 0;1 0;2 0;3 0;3", -8, 16);
        fault("words", "0 0;0", -8, 4);
        String eight = "0 6;1 6;2 6;3 6;4 6;5 6;6 6;7 6;";
        TakerTown x = townOf("person 9 0 0;".repeat(8));
        right(x, "words", eight, 8);
        due("a ninth line is of one twice", words(x, eight + "7 6;"), -8);
        due("at its place", x.fault(), 32);
        due("or of none", words(x, eight + " 8 6;"), -8);
        due("at its place", x.fault(), 33);
        due("or can't stand there", words(x, eight + ";"), -9);
        due("at its place", x.fault(), 32);
        fault("words", " ".repeat(59) + ";", -9, 59);
        fault("words", " ".repeat(56) + "0 0 ", -9, 60);
        String[] texts = {";", "0", "0;", "0 1", "0 1  ", "0 1;;", "0 1 2;", "a 1;", "0 a;", "0,1;", "-1 0;", "0 -1;", "0 1;x", "0 1;1"};
        int[] places = {0, 1, 1, 3, 5, 4, 4, 0, 2, 1, 0, 2, 4, 5};
        for (int i = 0; i < texts.length; i++) fault("words", texts[i], -9, places[i]);
    }

    private static void numbersAndBlanks() {
        current = "numbers and blanks";
        String zeros = "0".repeat(100);
        due("as many digits as stand there", right(new TakerTown(), "town", "person " + zeros + "63 " + zeros + "9 " + zeros + "40;", 1).person(0, 2), 40);
        due("zeros alone", right(new TakerTown(), "town", "like " + zeros + ";", 0).told(3), 0);
        String[] great = {"64", "100", "640", "255", "256", "257", "32768", "65536", "65537", "99999", "100001", "2147483647", "2147483648", "4294967295",
            "4294967296", "4294967297", "4294967301", "9223372036854775808", "18446744073709551616", "18446744073709551617", "1" + zeros, "9".repeat(200)};
        for (String number : great) {
            fault("town", "person " + number + " 0 0;", -8, 7);
            fault("town", "like " + number + ";", -8, 5);
            fault("town", "person 1 1 1;shy 0 " + number + ";", -8, 19);
        }
        for (String number : new String[] {"1000", "1001", "9999", "10000", "10001", "65536", "4294967296", "4294967297", "18446744073709551617", "1" + zeros}) {
            fault("law", number, -8, 0);
            fault("work", "burn " + number + ";", -8, 5);
            fault("work", "again " + number + "[];", -8, 6);
        }
        fault("words", "0 4294967296;", -8, 2);
        fault("words", "4294967296 0;", -8, 0);
        due("no blank is needed", right(new TakerTown(), "town", "person63 9 40;shy0 0;like6;", 1).told(8), 1);
        due("blanks ahead of all", right(new TakerTown(), "town", "  person  63  9  40  ;  shy  0  0  ;  like  6  ;  ", 1).told(3), 6);
        fault("town", "person 639 40;", -8, 7);
        fault("town", "per son 1 1 1;", -9, 0);
        fault("town", "like 1 0;", -9, 7);
        TakerTown x = four();
        due("blanks ahead of all", value(x, "  least  [  (  9  +  1  )  *  2  ,  99  ]  -  most  [  1  ,  2  ]  /  1  %  5  "), 18);
        due("none", value(x, "least[(9+1)*2,99]-most[1,2]/1%5"), 18);
        right(x, "work", "  take  0  0  0  ;  again  2  [  mood  0  1  ;  burn  0  ;  year  ;  ]  ;  ", 6);
        right(x, "work", "take0 0 0;again2[mood0 1;burn0;year;];", 6);
        right(x, "words", "  0  6  ;  1  5  ;  ", 2);
        right(x, "words", "0 6;1 5;", 2);
    }

    private static void faultPlaces() {
        current = "the first fault from the left";
        fault("town", "like 9;nothing", -8, 5);
        fault("town", "nothing 9;like 9;", -9, 0);
        fault("town", "like 9", -8, 5);
        fault("town", "person 99 99 99", -8, 7);
        fault("town", "person 1 99 99", -8, 9);
        fault("town", "person 1 1 99", -8, 11);
        fault("town", "person 1 x 99", -9, 9);
        fault("town", "person 1 1 1;".repeat(8) + "person 99 99 99;nothing", -7, 104);
        fault("work", "take 9 9 9;", -8, 5);
        fault("work", "take 0 9 9", -8, 7);
        fault("work", "take 0 0 9 nothing", -8, 9);
        fault("work", "again 31 nothing", -8, 6);
        fault("words", "9 9", -8, 0);
        fault("words", "0 1;0 9;", -8, 4);
        fault("law", "1000+?", -8, 0);
        fault("law", "?+1000", -9, 0);
        TakerTown x = four();
        due("of the latest text", law(x, "?"), -9);
        due("is there", x.fault(), 0);
        due("a right one", law(x, " 7"), 1);
        due("has none", x.fault(), TakerTown.NONE);
        due("of the latest text", words(x, "  ?"), -9);
        due("is there", x.fault(), 2);
        x.feed(0, 0, 0, 0, 0);
        x.undo();
        x.image();
        x.restore();
        due("it stays until another text comes", x.fault(), 2);
        bad("a text that is refused is none", () -> x.town(21));
        due("it stays", x.fault(), 2);
        due("a town", x.town(0), 0);
        due("has none", x.fault(), TakerTown.NONE);
    }

    /** Bytes of the tape behind the first n are not looked at, also if they would go on rightly. */
    private static void cut(String name, String text, int n, int answer, int place) {
        TakerTown x = standing();
        put(x, text);
        due(name + "(" + n + ") of " + text, ask(x, name, n), "" + answer);
        due("place of its fault", x.fault(), place);
        due("tape", x.count(1), 0);
    }

    private static void cutOff() {
        current = "cut off by n";
        cut("town", "like 1;", 7, 0, -1);
        cut("town", "like 1;", 6, -9, 6);
        cut("town", "like 1;", 5, -9, 5);
        cut("town", "like 1;", 4, -9, 4);
        cut("town", "like 1;", 3, -9, 0);
        cut("town", "like 1;like 9;", 7, 0, -1);
        cut("town", "person 1 1 40;", 12, -9, 12);
        cut("town", "person 1 1 400;", 13, -9, 13);
        cut("town", "person 1 1 1;person", 13, 1, -1);
        cut("law", "(1)", 2, -9, 2);
        cut("law", "1+1", 2, -9, 2);
        cut("law", "1+1", 1, 1, -1);
        cut("law", "9999", 3, 1, -1);
        cut("law", "face+faces", 9, 1, -1);
        cut("law", "least[1,1]", 9, -9, 9);
        cut("law", "least[1,1]", 7, -9, 7);
        cut("law", "least[1,1]", 5, -9, 5);
        cut("law", "((((((1))))))", 6, -9, 6);
        cut("work", "year;", 4, -9, 4);
        cut("work", "year;year;", 5, 1, -1);
        cut("work", "burn 55;", 6, -9, 6);
        cut("work", "again 1[year;];", 14, -9, 14);
        cut("work", "again 1[year;];", 13, -9, 13);
        cut("work", "again 1[year;];", 7, -9, 7);
        cut("words", "0 6;1 6;", 4, 1, -1);
        cut("words", "0 6;", 3, -9, 3);
        cut("words", "0 6;", 1, -9, 1);
        cut("words", "0 66;", 3, -9, 3);
        // A text that was longer has been there ahead of this one.
        TakerTown x = new TakerTown();
        due("longer", town(x, "like 1;like 2;like 3;"), 0);
        put(x, "like 4");
        due("shorter", x.town(6), -9);
        due("at its end", x.fault(), 6);
        due("empty", x.town(0), 0);
        due("K", x.told(3), 1);
    }
}
