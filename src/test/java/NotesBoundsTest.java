/** What section 3 says of SEEN, THE BOOK and IMAGES, and promises 21 to 29: each bound by itself. */
public final class NotesBoundsTest {
    private static final String LINE_OF_FOUR = "t1 1;h0 0 9;h0 0 0;h0 0 1;h0 0 2;";

    private static final Check CHECK = new Check();

    public static void main(String[] args) {
        sixSeen();
        byAnotherOrItself();
        whenceAllIsSo();
        greatestPartIsLeast();
        nonePartsThem();
        twentyEntries();
        firstThatIsOtherwise();
        imagesKeepAllOfSectionTwo();
        seeCounts();
        seeRefused();
        whenceBounds();
        lookAtBounds();
        writeBounds();
        writeRefused();
        judgeBounds();
        tearing();
        seedBounds();
        seedRefused();
        keeping();
        keepRefused();
        goingBack();
        goBackRefused();
        CHECK.end();
    }

    private static void sixSeen() {
        CHECK.sentence("section 3", "SEEN (6 at most)");
        LentDrains x = Check.townOf("t1 1;h0 0 9;h0 0 0;h0 0 0;h0 0 0;h0 0 0;h0 0 0;h0 0 0;h0 0 0;");
        for (int h = 1; h <= 6; h++) {
            CHECK.is("see(" + h + ", false)", x.see(h, false), h);
        }
        CHECK.is("all six count", x.whence(), 129);
        CHECK.is("see(7, false)", x.see(7, false), Check.FULL);
        CHECK.is("the seventh does not", x.whence(), 129);
        CHECK.is("told(10)", x.told(10), 6);
    }

    private static void byAnotherOrItself() {
        CHECK.sentence("section 3", "a letter that one HOUSE let go came by another one (or that one itself), or not");
        for (int h = 0; h < 4; h++) {
            LentDrains came = Check.townOf(LINE_OF_FOUR);
            came.see(h, true);
            CHECK.is("it came by " + h, came.whence(), 15 & -1 << h);
            LentDrains not = Check.townOf(LINE_OF_FOUR);
            not.see(h, false);
            CHECK.is("it did not come by " + h, not.whence(), (1 << h) - 1);
        }
    }

    private static void whenceAllIsSo() {
        CHECK.sentence("section 3", "WHENCE: HOUSES (a SET) by which all that is SEEN is so.");
        LentDrains x = Check.townOf(Check.FIVE);
        CHECK.is("nothing SEEN: all", x.whence(), 31);
        x.see(0, true);
        x.see(0, true);
        CHECK.is("the same twice", x.whence(), 15);
        x.see(1, false);
        CHECK.is("more SEEN", x.whence(), 5);
        x.see(0, false);
        CHECK.is("it can't be", x.whence(), 0);
    }

    private static void greatestPartIsLeast() {
        CHECK.sentence("section 3", "these are told apart best: the greatest part is least; of like ones the least");
        CHECK.is("a line: 2 and 2", Check.townOf(LINE_OF_FOUR).lookAt(), 2);
        CHECK.is("a line of three: 1 and 2", Check.townOf("t1 1;h0 0 9;h0 0 0;h0 0 1;").lookAt(), 1);
        CHECK.is("apart: 1 and 2 each", Check.townOf("t1 1;h0 0 9;h0 0 9;h0 0 9;").lookAt(), 0);
        CHECK.is("3 and 2 by HOUSE 0, 2 and 3 by HOUSE 3", Check.townOf("t1 1;h0 0 9;h0 0 0;h0 0 0;h0 0 9;h0 0 3;").lookAt(), 0);
        CHECK.is("2 and 3 by HOUSE 0", Check.townOf("t1 1;h0 0 9;h0 0 0;h0 0 9;h0 0 2;h0 0 2;").lookAt(), 0);
        LentDrains x = Check.townOf(LINE_OF_FOUR);
        x.see(1, true);
        // 1, 2, 3 are left: by 2 and 3 it is 2 and 1.
        CHECK.is("of what is left", x.lookAt(), 2);
        LentDrains y = Check.townOf("t1 1;h0 0 9;h0 0 0;h0 0 1;h0 0 1;");
        y.see(3, false);
        y.see(2, false);
        CHECK.is("0 and 1 are left", y.lookAt(), 1);
    }

    private static void nonePartsThem() {
        CHECK.sentence("section 3", "NONE: none parts them.");
        LentDrains one = Check.townOf(LINE_OF_FOUR);
        one.see(3, true);
        CHECK.is("one is left", one.lookAt(), Check.NONE);
        one.see(3, false);
        CHECK.is("none is left", one.lookAt(), Check.NONE);
        LentDrains two = Check.townOf(LINE_OF_FOUR);
        two.see(2, true);
        CHECK.is("two are left", two.lookAt(), 3);
    }

    private static void twentyEntries() {
        CHECK.sentence("section 3", "THE BOOK (20 at most)");
        LentDrains x = Check.townOf(Check.FIVE);
        for (int i = 1; i <= 19; i++) {
            x.write(0, 0);
        }
        CHECK.is("the twentieth", x.write(0, 1), 20);
        CHECK.is("the twenty-first", x.write(0, 0), Check.FULL);
        CHECK.is("the last one counts", x.judge(), 19);
        CHECK.is("told(11)", x.told(11), 20);
    }

    private static void firstThatIsOtherwise() {
        CHECK.sentence("section 3", "WRONG: the first that is otherwise now; NONE");
        LentDrains x = Check.townOf(Check.FIVE);
        x.write(4, 0);
        x.write(4, 2);
        x.write(4, 1);
        CHECK.is("the entry's number, not the HOUSE's", x.judge(), 1);
        x.day(1);
        CHECK.is("now, not when it was written", x.judge(), 0);
        x.undo(1);
        CHECK.is("as it was", x.judge(), 1);
        LentDrains each = Check.townOf(Check.FIVE);
        each.day(1);
        int[] keeps = {3, 4, 1, 6, 2};
        for (int h = 0; h < 5; h++) {
            each.write(h, keeps[h]);
        }
        CHECK.is("each by its own HOUSE", each.judge(), Check.NONE);
        each.pail(4, 3, 1);
        CHECK.is("3 and 4 are otherwise", each.judge(), 3);
        LentDrains full = Check.townOf("t60 1;h999 99 9;");
        full.day(11);
        full.write(0, 999);
        CHECK.is("999 KEPT", full.judge(), Check.NONE);
    }

    private static void imagesKeepAllOfSectionTwo() {
        CHECK.sentence("section 3", "IMAGES 0, 1 keep all of section 2, THE SEED.");
        for (int i = 0; i < 2; i++) {
            LentDrains x = Check.townOf(Check.FIVE);
            x.day(8);
            x.hour(2);
            x.aunt(2, 7);
            x.seed(31);
            x.keep(i);
            String then = Check.picture(x);
            x.drift(3);
            x.hour(4);
            x.aunt(2, 60);
            x.goBack(i);
            CHECK.unchanged("goBack(" + i + ")", x, then);
            CHECK.is("THE SEED", x.seed(0), 31);
        }
        LentDrains y = Check.townOf(Check.FIVE);
        y.see(0, true);
        y.write(0, 1);
        y.feed('t');
        y.keep(0);
        y.see(1, true);
        y.write(0, 2);
        y.feed('1');
        y.goBack(0);
        CHECK.is("not what is SEEN", y.told(10), 2);
        CHECK.is("not THE BOOK", y.told(11), 2);
        CHECK.is("not THE TEXT", y.told(3), 2);
    }

    private static void seeCounts() {
        CHECK.sentence("promise 21", "SEEN: how much.");
        LentDrains x = Check.townOf(Check.FIVE);
        CHECK.is("see(4, true)", x.see(4, true), 1);
        CHECK.is("see(4, true): the same", x.see(4, true), 2);
        CHECK.is("see(4, false): the contrary", x.see(4, false), 3);
    }

    private static void seeRefused() {
        CHECK.sentence("promise 21", "UNKNOWN, FULL (6).");
        LentDrains x = Check.townOf(Check.FIVE);
        CHECK.is("see(-1, true)", x.see(-1, true), Check.UNKNOWN);
        CHECK.is("see(5, false)", x.see(5, false), Check.UNKNOWN);
        for (int i = 1; i <= 6; i++) {
            x.see(0, true);
        }
        CHECK.is("see(0, true)", x.see(0, true), Check.FULL);
        CHECK.is("see(5, true)", x.see(5, true), Check.UNKNOWN);
        x.tear();
        CHECK.is("see(0, true) behind tear()", x.see(0, true), 1);
    }

    private static void whenceBounds() {
        CHECK.sentence("promise 22", "WHENCE.");
        CHECK.is("without a TOWN", new LentDrains().whence(), 0);
        CHECK.is("without HOUSES", Check.townOf("t1 1;").whence(), 0);
        CHECK.is("of one", Check.townOf("t1 1;h0 0 9;").whence(), 1);
        LentDrains eight = Check.townOf("t1 1;h0 0 9;h0 0 0;h0 0 1;h0 0 2;h0 0 3;h0 0 4;h0 0 5;h0 0 6;");
        CHECK.is("of eight", eight.whence(), 255);
        eight.see(7, true);
        CHECK.is("of the eighth", eight.whence(), 128);
    }

    private static void lookAtBounds() {
        CHECK.sentence("promise 23", "LOOK AT; NONE.");
        CHECK.is("without a TOWN", new LentDrains().lookAt(), Check.NONE);
        CHECK.is("without HOUSES", Check.townOf("t1 1;").lookAt(), Check.NONE);
        CHECK.is("of one", Check.townOf("t1 1;h0 0 9;").lookAt(), Check.NONE);
        CHECK.is("of two", Check.townOf("t1 1;h0 0 9;h0 0 0;").lookAt(), 1);
        LentDrains eight = Check.townOf("t1 1;h0 0 9;h0 0 0;h0 0 1;h0 0 2;h0 0 3;h0 0 4;h0 0 5;h0 0 6;");
        CHECK.is("of eight", eight.lookAt(), 4);
        eight.see(6, true);
        CHECK.is("of the last two", eight.lookAt(), 7);
    }

    private static void writeBounds() {
        CHECK.sentence("promise 24", "An entry behind THE BOOK (0 .. 999): how many.");
        LentDrains x = Check.townOf(Check.FIVE);
        CHECK.is("write(0, 0)", x.write(0, 0), 1);
        CHECK.is("write(0, 999)", x.write(0, 999), 2);
        CHECK.is("the first holds, the second does not", x.judge(), 1);
        CHECK.is("write(0, 1000)", x.write(0, 1000), Check.OUTSIDE);
        CHECK.is("write(0, -1)", x.write(0, -1), Check.OUTSIDE);
        CHECK.is("told(11)", x.told(11), 2);
    }

    private static void writeRefused() {
        CHECK.sentence("promise 24", "UNKNOWN, OUTSIDE, FULL (20).");
        LentDrains x = Check.townOf(Check.FIVE);
        CHECK.is("write(5, 0)", x.write(5, 0), Check.UNKNOWN);
        CHECK.is("write(-1, 0)", x.write(-1, 0), Check.UNKNOWN);
        CHECK.is("write(0, MIN)", x.write(0, Integer.MIN_VALUE), Check.OUTSIDE);
        CHECK.is("write(0, MAX)", x.write(0, Integer.MAX_VALUE), Check.OUTSIDE);
        for (int i = 1; i <= 20; i++) {
            CHECK.is("write no. " + i, x.write(i % 5, 0), i);
        }
        CHECK.is("write no. 21", x.write(0, 0), Check.FULL);
        CHECK.is("write(5, 1000)", x.write(5, 1000), Check.UNKNOWN);
        CHECK.is("write(0, 1000)", x.write(0, 1000), Check.OUTSIDE);
        x.tear();
        CHECK.is("write(0, 0) behind tear()", x.write(0, 0), 1);
    }

    private static void judgeBounds() {
        CHECK.sentence("promise 25", "WRONG; NONE.");
        CHECK.is("without a TOWN", new LentDrains().judge(), Check.NONE);
        LentDrains x = Check.townOf(Check.FIVE);
        CHECK.is("no entry", x.judge(), Check.NONE);
        x.write(0, 1);
        CHECK.is("the first of one", x.judge(), 0);
        x.tear();
        for (int i = 0; i < 20; i++) {
            x.write(i % 5, 0);
        }
        CHECK.is("none of twenty", x.judge(), Check.NONE);
    }

    private static void tearing() {
        CHECK.sentence("promise 26", "Nothing SEEN, no BOOK: how much both had.");
        CHECK.is("tear() without a TOWN", new LentDrains().tear(), 0);
        LentDrains x = Check.townOf(Check.FIVE);
        CHECK.is("tear() of nothing", x.tear(), 0);
        for (int i = 0; i < 25; i++) {
            x.see(0, false);
            x.write(1, 7);
        }
        x.day(1);
        CHECK.is("tear() of all that can be", x.tear(), 26);
        CHECK.is("told(10)", x.told(10), 0);
        CHECK.is("told(11)", x.told(11), 0);
        CHECK.is("whence()", x.whence(), 31);
        CHECK.is("judge()", x.judge(), Check.NONE);
        CHECK.is("it is no deed", x.told(12), 1);
        CHECK.is("tear() again", x.tear(), 0);
        x.see(0, true);
        CHECK.is("tear() of what is SEEN alone", x.tear(), 1);
        x.write(0, 0);
        CHECK.is("tear() of THE BOOK alone", x.tear(), 1);
    }

    private static void seedBounds() {
        CHECK.sentence("promise 27", "THE SEED becomes v (0 .. 2147483647): what it was.");
        LentDrains x = new LentDrains();
        CHECK.is("seed(2147483647)", x.seed(2147483647), 0);
        CHECK.is("seed(1)", x.seed(1), 2147483647);
        CHECK.is("seed(0)", x.seed(0), 1);
        CHECK.is("seed(0)", x.seed(0), 0);
    }

    private static void seedRefused() {
        CHECK.sentence("promise 27", "OUTSIDE.");
        LentDrains x = new LentDrains();
        x.seed(12);
        CHECK.is("seed(-1)", x.seed(-1), Check.OUTSIDE);
        CHECK.is("seed(MIN)", x.seed(Integer.MIN_VALUE), Check.OUTSIDE);
        CHECK.is("seed(0)", x.seed(0), 12);
    }

    private static void keeping() {
        CHECK.sentence("promise 28", "IMAGE i becomes what is so (nothing can be undone then): 1.");
        LentDrains x = Check.townOf(Check.FIVE);
        x.day(2);
        CHECK.is("keep(0)", x.keep(0), 1);
        CHECK.is("told(12)", x.told(12), 0);
        CHECK.is("undo(1)", x.undo(1), Check.NOT);
        CHECK.is("DAYS", x.told(4), 2);
        x.day(1);
        CHECK.is("keep(0) again", x.keep(0), 1);
        x.day(1);
        CHECK.is("keep(1)", x.keep(1), 1);
        x.day(1);
        x.goBack(0);
        CHECK.is("DAYS of IMAGE 0", x.told(4), 3);
        x.goBack(1);
        CHECK.is("DAYS of IMAGE 1", x.told(4), 4);
        CHECK.is("keep(0) without a TOWN", new LentDrains().keep(0), 1);
    }

    private static void keepRefused() {
        CHECK.sentence("promise 28", "UNKNOWN.");
        LentDrains x = Check.townOf(Check.FIVE);
        x.day(2);
        for (int i : new int[] {-1, 2, Integer.MIN_VALUE, Integer.MAX_VALUE}) {
            CHECK.is("keep(" + i + ")", x.keep(i), Check.UNKNOWN);
        }
        CHECK.is("told(12)", x.told(12), 2);
        CHECK.is("goBack(0)", x.goBack(0), Check.NOT);
        CHECK.is("goBack(1)", x.goBack(1), Check.NOT);
    }

    private static void goingBack() {
        CHECK.sentence("promise 29", "What is so becomes IMAGE i (nothing can be undone then): 1.");
        LentDrains x = Check.townOf(Check.FIVE);
        x.day(2);
        x.keep(1);
        x.day(9);
        CHECK.is("goBack(1)", x.goBack(1), 1);
        CHECK.is("DAYS", x.told(4), 2);
        CHECK.is("told(12)", x.told(12), 0);
        CHECK.is("undo(1)", x.undo(1), Check.NOT);
        x.pail(0, 1, 1);
        x.aunt(3, 3);
        CHECK.is("goBack(1): it is there yet", x.goBack(1), 1);
        CHECK.is("nobody is AWAY", x.told(9), 0);
        CHECK.is("no PAIL", x.house(0, 3), 6);
    }

    private static void goBackRefused() {
        CHECK.sentence("promise 29", "UNKNOWN, NOT: it was not kept.");
        LentDrains x = Check.townOf(Check.FIVE);
        for (int i : new int[] {-1, 2, Integer.MIN_VALUE, Integer.MAX_VALUE}) {
            CHECK.is("goBack(" + i + ")", x.goBack(i), Check.UNKNOWN);
        }
        CHECK.is("goBack(0)", x.goBack(0), Check.NOT);
        x.keep(0);
        x.day(2);
        CHECK.is("goBack(1)", x.goBack(1), Check.NOT);
        CHECK.is("told(12)", x.told(12), 2);
        CHECK.is("DAYS", x.told(4), 2);
        Check.feedAll(x, Check.FIVE);
        x.town();
        CHECK.is("goBack(0) behind a TOWN", x.goBack(0), Check.NOT);
        CHECK.is("goBack(0) without a TOWN", new LentDrains().goBack(0), Check.NOT);
    }
}
