import java.util.List;

/** The edges of doing work: steps, plates, years, works to undo and images, the empty and the full, and what is refused. */
public final class WorkEdgesTest extends Check {
    /** 183 steps that are begun, 180 of them done, none refused; it is the mood of 0 alone that changes: to 2. */
    private static final String BEGUN_183 = "again 30[mood 0 1;mood 0 2;];".repeat(3);
    private static final String PLATES_40 = "again 30[take 0 0 0;];again 10[take 1 1 1;];";

    public static void main(String[] args) {
        atFirst();
        steps();
        againSteps();
        takes();
        plates();
        moods();
        burns();
        years();
        refusedSteps();
        works();
        undoing();
        images();
        imagesAndWorks();
        end("work holds at its edges");
    }

    private static void does(TakerTown x, String text, int done, int refused) {
        due(text, work(x, text), done);
        due("refused of " + text, x.told(5), refused);
        due("fault of " + text, x.fault(), TakerTown.NONE);
    }

    private static void atFirst() {
        current = "at first";
        TakerTown x = four();
        due("year", x.told(2), 0);
        due("plates", x.told(1), 0);
        due("taken", x.told(6), 0);
        due("burned", x.told(7), 0);
        due("refused", x.told(5), 0);
        for (int p = 0; p < 4; p++) for (int what = 3; what <= 5; what++) due("person " + p + " " + what, x.person(p, what), 0);
        due("works", x.count(2), 0);
        due("images", x.count(0), 0);
    }

    private static void steps() {
        current = "200 steps";
        TakerTown x = four();
        does(x, BEGUN_183 + "again 15[year;];year;", 196, 0);
        due("the 200th is done", x.told(2), 16);
        does(x, BEGUN_183 + "again 15[year;];year;year;", 196, 0);
        due("the 201st is left out", x.told(2), 32);
        does(x, BEGUN_183 + "again 16[year;];mood 0 9;", 196, 0);
        due("the 201st is left out", x.person(0, 3), 0);
        does(x, BEGUN_183 + "again 30[year;];", 196, 0);
        due("and all behind it", x.told(2), 64);
        TakerTown y = four();
        does(y, "again 30[burn 5;burn 4;];".repeat(3) + "again 15[year;];burn 3;year;", 15, 181);
        due("refused ones count, too", y.told(2), 15);
        does(y, "again 30[burn 5;burn 4;];".repeat(3) + "again 16[burn 3;];burn 2;burn 1;", 0, 196);
        does(y, "burn 0;", 0, 1);
        does(y, "", 0, 0);
        does(y, "burn 0;year;", 1, 1);
        due("each work has 200 of its own", work(y, BEGUN_183 + "again 15[year;];year;"), 196);
    }

    private static void againSteps() {
        current = "agains";
        TakerTown x = four();
        does(x, BEGUN_183 + "again 15[year;];again 30[year;];", 195, 0);
        due("an again as the 200th has no steps left", x.told(2), 15);
        does(x, BEGUN_183 + "again 15[year;];again 0[year;];year;", 195, 0);
        due("an again of none is begun as well", x.told(2), 30);
        does(x, "again 0[burn 0;burn 0;];", 0, 0);
        does(x, "again 30[];again 30[];year;", 1, 0);
        // 1 + 30 * 3 twice is 182, then an again and 17 years.
        does(x, "again 30[again0[];again0[];again0[];];".repeat(2) + "again 30[year;];", 17, 0);
        // Each of the 30 times the inner again is come to counts: 1 + 30 * 4 = 121, then an again and 78 steps.
        does(x, "again 30[again 3[burn 0;];];again 30[burn 0;burn 0;burn 0;];", 0, 90 + 78);
        // It ends amid an inner again: 1 + 9 * 21 = 190, then an again and 9 steps.
        does(x, "again 20[again 20[burn 5;];];year;", 0, 189);
        does(x, "again 2[again 3[year;];mood 1 5;year;];", 10, 0);
        due("in order", x.person(1, 3), 0);
        does(x, "again 3[year;];mood 1 5;", 4, 0);
        due("what is behind an again is done once", x.person(1, 3), 5);
        does(x, "again 1[again 0[year;];mood 1 6;];", 1, 0);
        due("what is behind an again of none is done", x.person(1, 3), 6);
    }

    private static void takes() {
        current = "takes";
        TakerTown x = four();
        law(x, "taken * 10 + mood + own * 30");
        does(x, "take 0 2 1;take 0 1 1;take 2 2 1;take 0 0 5;mood 0 3;take 0 3 0;", 4, 2);
        int[][] due = {{0, 2, 1, 0, 0}, {0, 0, 5, 40, 0}, {0, 3, 0, 23, 0}};
        for (int i = 0; i < 3; i++) for (int what = 0; what < 5; what++) due("plate " + i + " " + what, x.plate(i, what), due[i][what]);
        due("who never takes another has not taken", x.person(2, 4), 0);
        due("nor was he taken", x.person(1, 5), 0);
        due("he took", x.person(0, 4), 3);
        due("taken in all", x.told(6), 3);
        TakerTown y = four();
        does(y, "take 1 0 0;", 1, 0);
        due("the other may be taken by who is not shy", y.plate(0, 0), 1);
    }

    private static void plates() {
        current = "40 plates";
        TakerTown x = four();
        does(x, PLATES_40, 40, 0);
        due("40 hang", x.told(1), 40);
        due("the last of them", x.plate(39, 0), 1);
        none("no 41st", () -> x.plate(40, 0));
        does(x, "take 3 3 3;", 0, 1);
        due("a 41st is refused", x.told(1), 40);
        due("he did not take", x.person(3, 4), 0);
        due("nor was he taken", x.person(3, 5), 0);
        due("taken in all", x.told(6), 40);
        does(x, "take 0 1 3;", 0, 1);
        does(x, "burn 1;take 3 3 3;", 2, 0);
        due("room again", x.told(1), 31);
        due("behind the others", x.plate(30, 0), 3);
        does(x, "again 10[take 3 3 3;];", 9, 1);
        due("full again", x.told(1), 40);
        due("taken in all", x.told(6), 50);
        due("burned", x.told(7), 10);
        does(x, "burn 0;burn 1;burn 3;", 2, 1);
        due("empty", x.told(1), 0);
        none("none", () -> x.plate(0, 0));
        due("burned", x.told(7), 50);
        does(x, PLATES_40 + "burn 0;" + PLATES_40, 71, 10);
        due("more than 40 in one work", x.told(6), 120);
    }

    private static void moods() {
        current = "moods";
        TakerTown x = four();
        does(x, "mood 0 0;", 0, 1);
        does(x, "mood 0 9;", 1, 0);
        does(x, "mood 0 9;", 0, 1);
        does(x, "mood 0 0;mood 0 0;", 1, 1);
        does(x, "mood 3 9;mood 0 1;", 2, 0);
        due("each has his own", x.person(3, 3), 9);
        due("each has his own", x.person(0, 3), 1);
        due("each has his own", x.person(1, 3), 0);
        does(x, "year;", 1, 0);
        for (int p = 0; p < 4; p++) due("0 by a year", x.person(p, 3), 0);
        does(x, "mood 3 0;", 0, 1);
    }

    private static void burns() {
        current = "burns";
        TakerTown x = four();
        for (int h = 0; h < 6; h++) does(x, "burn " + h + ";", 0, 1);
        does(x, "take 0 0 5;take 1 1 0;take 3 3 5;take 1 0 2;take 0 3 5;", 5, 0);
        does(x, "burn 1;", 0, 1);
        due("nothing is gone", x.told(1), 5);
        does(x, "burn 5;burn 5;", 1, 1);
        due("all in it are gone", x.told(1), 2);
        due("those behind move up", x.plate(0, 2), 0);
        due("in their order", x.plate(1, 2), 2);
        due("burned", x.told(7), 3);
        due("who took them took them", x.person(3, 4), 1);
        due("who was taken was taken", x.person(3, 5), 2);
        does(x, "burn 0;burn 2;", 2, 0);
        due("none hangs", x.told(1), 0);
        does(x, "take 3 3 5;", 1, 0);
        due("from 0 on", x.plate(0, 0), 3);
    }

    private static void years() {
        current = "years";
        TakerTown x = four();
        does(x, "again 30[again 5[year;];];", 150, 0);
        does(x, "again 30[year;];again 19[year;];take 0 0 0;mood 0 4;", 51, 0);
        due("199", x.told(2), 199);
        due("told by year", x.plate(0, 4), 199);
        does(x, "year;", 1, 0);
        due("200", x.told(2), 200);
        due("moods are 0", x.person(0, 3), 0);
        does(x, "mood 0 4;take 0 0 0;year;", 2, 1);
        due("refused from 200 on", x.told(2), 200);
        due("which changes no mood", x.person(0, 3), 4);
        due("told by year", x.plate(1, 4), 200);
        due("the first one as it was", x.plate(0, 4), 199);
        due("undo", x.undo(), 3);
        due("undo", x.undo(), 2);
        does(x, "year;year;", 1, 1);
    }

    /** A refused step changes nothing but the number of those: the works that can be undone count this one. */
    private static void refusedSteps() {
        current = "refused steps";
        TakerTown x = four();
        TakerTown y = four();
        for (TakerTown each : List.of(x, y)) work(each, PLATES_40 + "mood 3 2;year;mood 1 5;");
        does(x, "take 0 1 0;take 2 2 2;take 3 3 3;mood 1 5;mood 3 0;burn 5;burn 2;", 0, 7);
        does(y, "", 0, 0);
        due("undone, it is as if there were none", x.undo(), 1);
        due("none", y.undo(), 1);
        alike("refused steps undone", x, y);
        TakerTown z = four();
        work(z, "again 30[again 5[year;];];");
        work(z, "again 30[year;];again 20[year;];");
        does(z, "mood 1 5;mood 2 1;year;year;mood 1 5;burn 0;", 2, 4);
        due("year", z.told(2), 200);
        due("mood", z.person(1, 3), 5);
    }

    private static void works() {
        current = "16 works";
        TakerTown x = four();
        due("none to undo", x.count(2), 0);
        for (int i = 1; i <= 15; i++) {
            does(x, i % 2 == 0 ? "year;burn 3;" : "", i % 2 == 0 ? 1 : 0, i % 2 == 0 ? 1 : 0);
            due("works", x.count(2), i);
        }
        due("one with a fault is none", work(x, "year"), -9);
        due("works", x.count(2), 15);
        does(x, "take 0 0 0;burn 3;", 1, 1);
        due("the 16th", x.count(2), 16);
        due("a fault", law(x, "??"), -9);
        due("the 17th", work(x, "year;"), -20);
        due("no fault", x.fault(), TakerTown.NONE);
        due("an empty tape", x.count(1), 0);
        due("nothing is done", x.told(2), 7);
        due("nothing is refused", x.told(5), 1);
        due("works", x.count(2), 16);
        due("ahead of a fault", work(x, "nothing"), -20);
        due("no fault", x.fault(), TakerTown.NONE);
        due("also if it is empty", x.work(0), -20);
        put(x, "year;");
        bad("a number of bytes that is none", () -> x.work(21));
        bad("a number of bytes that is none", () -> x.work(-1));
        due("the tape stays then", x.count(1), 20);
        due("and is empty behind", x.work(5), -20);
        due("empty", x.count(1), 0);
        due("refusals", x.status(1), 2);
        due("one less", x.undo(), 15);
        does(x, "year;", 1, 0);
        due("again", x.work(0), -20);
        due("a town", town(x, FOUR), 4);
        does(x, "year;", 1, 0);
        due("the first", x.count(2), 1);
    }

    private static void undoing() {
        current = "undo";
        TakerTown x = four();
        due("none", x.undo(), -1);
        alike("an undo of none", x, four());
        TakerTown y = standing();
        put(y, "year;mood 0 2;");
        due("work", y.work(14), 2);
        law(y, "1+?");
        put(y, "year;");
        due("undo", y.undo(), 3);
        TakerTown z = standing();
        put(z, "year;");
        due("none is refused", y.told(5), 0);
        // Of the other one the latest work, which refused two steps, is still the latest.
        List<String> got = picture(y);
        List<String> want = picture(z);
        for (int i = 0; i < want.size(); i++) {
            boolean latest = i < 11 && want.get(i).startsWith("told[5]");
            due("as ahead of the work", latest ? "told[5] -> 0" : got.get(i), latest ? "told[5] -> 0" : want.get(i));
        }
        TakerTown all = four();
        for (int i = 1; i <= 16; i++) work(all, "year;take 0 0 0;mood 1 3;");
        for (int i = 15; i >= 0; i--) {
            due("left", all.undo(), i);
            due("year", all.told(2), i);
            due("plates", all.told(1), i);
            due("mood", all.person(1, 3), i == 0 ? 0 : 3);
        }
        due("none", all.undo(), -1);
        due("none", all.undo(), -1);
        alike("all undone", all, four());
    }

    private static void images() {
        current = "images";
        TakerTown x = four();
        due("none", x.restore(), -1);
        alike("a restore of none", x, four());
        TakerTown y = four();
        does(y, "year;burn 0;", 1, 1);
        due("first", y.image(), 1);
        due("an image changes no number of refused steps", y.told(5), 1);
        due("restore of none leaves", y.restore(), 0);
        due("none is refused behind it", y.told(5), 0);
        does(y, "year;burn 0;", 1, 1);
        due("none", y.restore(), -1);
        due("which changes nothing", y.told(5), 1);
        due("which changes nothing", y.told(2), 2);
        TakerTown z = four();
        for (int i = 1; i <= 3; i++) {
            work(z, "year;");
            due("images", z.image(), i);
            due("images", z.count(0), i);
        }
        work(z, "year;");
        due("no fourth", z.image(), -1);
        due("three", z.count(0), 3);
        due("year", z.told(2), 4);
        for (int i = 2; i >= 0; i--) {
            due("left", z.restore(), i);
            due("the latest", z.told(2), i + 1);
            due("works", z.count(2), i + 1);
        }
        due("none", z.restore(), -1);
        due("the first image is what stays", z.told(2), 1);
        due("fourth, as there is room", z.image(), 1);
        TakerTown standing = standing();
        put(standing, "year;");
        due("a third", standing.image(), 3);
        due("a fourth", standing.image(), -1);
        due("restored at once", standing.restore(), 2);
        TakerTown other = standing();
        put(other, "year;");
        List<String> got = picture(standing);
        List<String> want = picture(other);
        for (int i = 0; i < want.size(); i++) {
            boolean latest = i < 11 && want.get(i).startsWith("told[5]");
            due("an image and its restore", latest ? "told[5] -> 0" : got.get(i), latest ? "told[5] -> 0" : want.get(i));
        }
    }

    private static void imagesAndWorks() {
        current = "images and works";
        TakerTown x = four();
        for (int i = 0; i < 16; i++) work(x, "year;");
        x.image();
        for (int i = 0; i < 10; i++) x.undo();
        due("six", x.count(2), 6);
        does(x, "take 0 0 0;", 1, 0);
        due("restored", x.restore(), 0);
        due("16 works", x.count(2), 16);
        due("no more", x.work(0), -20);
        due("16 years", x.told(2), 16);
        due("no plate", x.told(1), 0);
        due("undone", x.undo(), 15);
        due("15 years", x.told(2), 15);
        for (int i = 14; i >= 0; i--) due("undone", x.undo(), i);
        due("none", x.undo(), -1);
        TakerTown y = four();
        y.image();
        work(y, "take 0 0 0;mood 0 1;year;");
        law(y, "3");
        words(y, "1 1;");
        put(y, "year;");
        due("restored", y.restore(), 0);
        due("nothing to undo", y.undo(), -1);
        due("no plate", y.told(1), 0);
        due("no year", y.told(2), 0);
        due("no plate was taken", y.told(6), 0);
        due("he took none", y.person(0, 4), 0);
        due("he was not taken", y.person(0, 5), 0);
        due("the law stays", y.would(0, 0, 0, 0, 0, 0, 0, 0), 3);
        due("the words stay", y.told(4), 1);
        due("the tape stays", y.work(5), 1);
        TakerTown z = four();
        work(z, "year;");
        z.image();
        work(z, "take 0 0 0;");
        z.image();
        z.undo();
        z.undo();
        work(z, "mood 0 9;");
        due("the later one", z.restore(), 1);
        due("two works", z.count(2), 2);
        due("undo", z.undo(), 1);
        due("no plate", z.told(1), 0);
        due("the earlier one", z.restore(), 0);
        due("one work", z.count(2), 1);
        due("mood", z.person(0, 3), 0);
        due("a year", z.told(2), 1);
        z.image();
        due("a town has no image of another", town(z, FOUR), 4);
        due("none", z.restore(), -1);
        due("none", z.count(0), 0);
    }
}
