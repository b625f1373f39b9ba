/** Promises 1 to 6: a new object, feed, town, fault, told, house. */
public final class TextTest {
    private static final Check CHECK = new Check();

    public static void main(String[] args) {
        newObject();
        feeding();
        goodTexts();
        misplaced();
        badNumbers();
        tooMany();
        leastFaultAtOneLetter();
        textsWithoutAWord();
        faultLeavesAll();
        townBeginsAnew();
        townsOneBehindTheOther();
        toldOfTheTown();
        housesOfTheTown();
        CHECK.end();
    }

    private static void newObject() {
        LentDrains x = new LentDrains();
        for (int what = 0; what <= 12; what++) {
            CHECK.is("new told(" + what + ")", x.told(what), 0);
        }
        CHECK.is("new fault", x.fault(), Check.NONE);
        CHECK.is("new house", x.house(0, 0), Check.UNKNOWN);
        CHECK.is("new day", x.day(1), Check.NOT);
        CHECK.is("new hour", x.hour(1), Check.NOT);
        CHECK.is("new drift", x.drift(1), Check.NOT);
        CHECK.is("new undo", x.undo(1), Check.NOT);
        CHECK.is("new goBack", x.goBack(0), Check.NOT);
        CHECK.is("new seed", x.seed(0), 0);
        CHECK.is("new fewest", x.fewest(), 0);
        CHECK.is("new held", x.held(), 0);
        CHECK.is("new whence", x.whence(), 0);
        CHECK.is("new lookAt", x.lookAt(), Check.NONE);
        CHECK.is("new judge", x.judge(), Check.NONE);
        CHECK.is("new spills", x.spills(60), 0);
    }

    private static void feeding() {
        LentDrains x = new LentDrains();
        CHECK.is("feed(-1)", x.feed(-1), Check.OUTSIDE);
        CHECK.is("feed(256)", x.feed(256), Check.OUTSIDE);
        CHECK.is("feed(0)", x.feed(0), 1);
        CHECK.is("feed(255)", x.feed(255), 2);
        for (int i = 3; i <= 200; i++) {
            CHECK.is("feed no. " + i, x.feed(' '), i);
        }
        CHECK.is("feed no. 201", x.feed(' '), Check.FULL);
        CHECK.is("feed(256) at the end", x.feed(256), Check.OUTSIDE);
        CHECK.is("told(3)", x.told(3), 200);
        CHECK.is("town", x.town(), -11);
        CHECK.is("told(3) behind town", x.told(3), 0);
        CHECK.is("feed again", x.feed('t'), 1);
    }

    /** The answer of town(), then that of fault(). */
    private static void text(String text, int due, int faultAt) {
        LentDrains x = new LentDrains();
        Check.feedAll(x, text);
        CHECK.is("town of '" + text + "'", x.town(), due);
        CHECK.is("fault of '" + text + "'", x.fault(), faultAt);
        CHECK.is("letters behind '" + text + "'", x.told(3), 0);
    }

    private static void goodTexts() {
        text("t1 1;", 0, Check.NONE);
        text("t60 99;h999 99 9;", 1, Check.NONE);
        text("  t 060  099 ; h 0 0 009 ;  ", 1, Check.NONE);
        text("t1 1;h0 0 9;h1 1 0;h2 2 1;", 3, Check.NONE);
        text("t001 1;h000 00 9;h1 1 000;", 2, Check.NONE);
        text("t1 1;h0 0 9;h0 0 9;h0 0 9;h0 0 9;h0 0 9;h0 0 9;h0 0 9;h0 0 6;", 8, Check.NONE);
    }

    private static void misplaced() {
        text("x", -11, 0);
        text(" ;", -11, 1);
        text("7", -11, 0);
        text("h0 0 9;", -11, 0);
        text("T1 1;", -11, 0);
        text("t", -11, 1);
        text("t1", -11, 2);
        text("t1 ", -11, 3);
        text("t1 1", -11, 4);
        text("t1 1  ", -11, 6);
        text("t;", -11, 1);
        text("t1;", -11, 2);
        text("t1 1 1;", -11, 5);
        text("t1 1;;", -11, 5);
        text("t1 1;5", -11, 5);
        text("t-1 1;", -11, 1);
        text("t1\t1;", -11, 2);
        text("t11;", -11, 3);
        text("t1 1;h1 1;", -11, 9);
        text("t1 1;h1 1 9", -11, 11);
        text("t1 1;h1 1 9 9;", -11, 12);
        text("t1 1;hh", -11, 6);
        text("t1 1;" + (char) 0, -11, 5);
        text("  h0 0 9;", -11, 2);
        text("   t", -11, 4);
        text(" \t", -11, 1);
    }

    private static void badNumbers() {
        text("t0 1;", -12, 1);
        text("t61 1;", -12, 1);
        text("t 1000 1;", -12, 2);
        text("t0001 1;", -12, 1);
        text("t99999999999999999999 1;", -12, 1);
        text("t4294967297 1;", -12, 1);
        text("t1 0;", -12, 3);
        text("t1 100;", -12, 3);
        text("t1 1;h1000 0 9;", -12, 6);
        text("t1 1;h0 100 9;", -12, 8);
        text("t1 1;h0 0 0;", -12, 10);
        text("t1 1;h0 0 8;", -12, 10);
        text("t1 1;h0 0  10;", -12, 11);
        text("t1 1;h0 0 0009;", -12, 10);
        text("t1 1;h0 0 9;h0 0 1;", -12, 17);
        text("t1 1;h0 0 9;h0 0 2;", -12, 17);
        text("t0x", -12, 1);
        text("t61", -12, 1);
        text("t1 1;h0 0 5x", -12, 10);
    }

    private static void tooMany() {
        text("t1 1;t1 1;", -13, 5);
        text("t1 1;t", -13, 5);
        text("t1 1;h0 0 9;  t", -13, 14);
        String eight = "t1 1;h0 0 9;h0 0 9;h0 0 9;h0 0 9;h0 0 9;h0 0 9;h0 0 9;h0 0 9;";
        text(eight + "h", -13, 61);
        text(eight + " h0 0 9;", -13, 62);
        text(eight + "x", -11, 61);
    }

    private static void leastFaultAtOneLetter() {
        text("t1 t1 1;", -11, 3);
        text("t1 1 9999;", -11, 5);
        text("t1 1;h1 1 9 1234;", -11, 12);
        text("t0 0;x", -12, 1);
    }

    private static void textsWithoutAWord() {
        textWithoutAWord("");
        textWithoutAWord(" ");
        textWithoutAWord("   ");
        textWithoutAWord(" ".repeat(200));
    }

    /** There is no TOWN behind it, whatever there was ahead of it. */
    private static void textWithoutAWord(String text) {
        text(text, 0, Check.NONE);
        LentDrains x = Check.townOf(Check.FIVE);
        x.seed(77);
        x.day(3);
        x.aunt(0, 5);
        x.see(0, true);
        x.write(0, 1);
        x.keep(0);
        Check.feedAll(x, "x");
        CHECK.is("a fault ahead of '" + text + "'", x.town(), -11);
        Check.feedAll(x, text);
        CHECK.is("town of '" + text + "' behind a town", x.town(), 0);
        CHECK.is("its fault", x.fault(), Check.NONE);
        for (int what = 0; what <= 12; what++) {
            CHECK.is("no town, told(" + what + ")", x.told(what), 0);
        }
        CHECK.is("no town, house", x.house(0, 0), Check.UNKNOWN);
        CHECK.is("no town, day", x.day(1), Check.NOT);
        CHECK.is("no town, goBack", x.goBack(0), Check.NOT);
        CHECK.is("no town, the seed", x.seed(0), 77);
    }

    private static void faultLeavesAll() {
        LentDrains x = Check.townOf(Check.FIVE);
        x.day(2);
        x.aunt(1, 3);
        x.see(0, true);
        x.write(0, 6);
        String before = Check.picture(x);
        Check.feedAll(x, "t5 5;h1 1 9;h2 2 7;");
        CHECK.is("town with a fault", x.town(), -12);
        CHECK.is("its letter", x.fault(), 17);
        CHECK.unchanged("town with a fault", x, before);
        CHECK.is("undo behind it", x.undo(3), 0);
        x.keep(1);
        Check.feedAll(x, "x");
        x.town();
        CHECK.is("image behind a fault", x.goBack(1), 1);
        Check.feedAll(x, "t5 5;");
        CHECK.is("town again", x.town(), 0);
        CHECK.is("its fault", x.fault(), Check.NONE);
    }

    private static void townBeginsAnew() {
        LentDrains x = Check.townOf(Check.FIVE);
        x.seed(5);
        x.day(20);
        x.aunt(2, 9);
        x.keep(0);
        x.keep(1);
        x.day(1);
        x.see(1, true);
        x.write(1, 0);
        Check.feedAll(x, Check.FIVE);
        CHECK.is("town", x.town(), 5);
        CHECK.unchanged("town", x, Check.picture(Check.townOf(Check.FIVE)));
        CHECK.is("image 0 is gone", x.goBack(0), Check.NOT);
        CHECK.is("image 1 is gone", x.goBack(1), Check.NOT);
        CHECK.is("nothing to undo", x.undo(1), Check.NOT);
        CHECK.is("the seed stays", x.seed(5), 5);
    }

    /** Nothing of an earlier town is left in a later one, however many came between. */
    private static void townsOneBehindTheOther() {
        LentDrains x = new LentDrains();
        String[] texts = {
            "t9 9;h9 9 9;h9 9 0;h9 9 1;h9 9 2;h9 9 3;h9 9 4;h9 9 5;h9 9 6;", "t5 5;h5 5 9;h5 5 9;h5 5 1;", Check.FIVE,
            "t2 2;h1 1 9;h1 1 9;", "t1 1;", "t3 3;h2 2 9;h3 3 9;h4 4 9;"};
        for (String text : texts) {
            Check.feedAll(x, text);
            x.town();
            LentDrains alone = Check.townOf(text);
            CHECK.unchanged("'" + text + "' behind others", x, Check.picture(alone));
            CHECK.is("lookAt of '" + text + "'", x.lookAt(), alone.lookAt());
            CHECK.is("fewest of '" + text + "'", x.fewest(), alone.fewest());
            CHECK.is("held of '" + text + "'", x.held(), alone.held());
        }
        x.town();
        CHECK.unchanged("an empty text behind others", x, Check.picture(new LentDrains()));
        CHECK.is("hour behind an empty text", x.hour(1), Check.NOT);
    }

    private static void toldOfTheTown() {
        LentDrains x = Check.townOf("t7 13;h5 4 9;h2 1 0;h9 3 9;");
        x.feed('t');
        x.feed('1');
        x.aunt(0, 1);
        x.aunt(2, 4);
        x.day(3);
        x.see(0, true);
        x.see(0, false);
        x.write(0, 3);
        int[] due = {7, 13, 3, 2, 3, 1, 7, 4, 0, 4, 2, 1, 5};
        for (int what = 0; what < due.length; what++) {
            CHECK.is("told(" + what + ")", x.told(what), due[what]);
        }
        CHECK.is("told(-1)", x.told(-1), Check.OUTSIDE);
        CHECK.is("told(13)", x.told(13), Check.OUTSIDE);
        x.day(4);
        CHECK.is("LENT is over", x.told(5), 0);
        x.day(1);
        CHECK.is("in the river", x.told(8), 8);
    }

    private static void housesOfTheTown() {
        LentDrains x = Check.townOf("t7 13;h50 4 9;h22 1 0;h9 3 9;h0 0 1;h1 2 2;");
        x.day(2);
        x.aunt(1, 6);
        int[][] due = {
            {50, 4, -1, 8, 0, 11}, {22, 1, 0, 2, 6, 10}, {9, 3, -1, 6, 0, 20}, {0, 0, 1, 0, 0, 8}, {1, 2, 2, 1, 0, 16}};
        for (int h = 0; h < due.length; h++) {
            for (int what = 0; what < 6; what++) {
                CHECK.is("house(" + h + ", " + what + ")", x.house(h, what), due[h][what]);
            }
        }
        CHECK.is("house(5, 0)", x.house(5, 0), Check.UNKNOWN);
        CHECK.is("house(-1, 9)", x.house(-1, 9), Check.UNKNOWN);
        CHECK.is("house(0, 6)", x.house(0, 6), Check.OUTSIDE);
        CHECK.is("house(0, -1)", x.house(0, -1), Check.OUTSIDE);
    }
}
