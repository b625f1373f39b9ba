/** Section 1 and promises 1 to 6, a test for each sentence that names a bound. */
public final class TextBoundsTest {
    private static final String EIGHT = "t1 1;h0 0 9;h0 0 9;h0 0 9;h0 0 9;h0 0 9;h0 0 9;h0 0 9;h0 0 9;";

    private static final Check CHECK = new Check();

    public static void main(String[] args) {
        twoHundredLetters();
        lentLasts();
        pipeTakes();
        lentFirstAndOnce();
        eightHouses();
        rooms();
        lettingGo();
        drainsAhead();
        figuresOfNumbers();
        oneLetterWords();
        blanks();
        numbersSideBySide();
        firstFaultCounts();
        endAtTheTextsLength();
        leastFaultAtOneLetter();
        everyLetterInEveryPlace();
        numbersOutOfBounds();
        againAndNinth();
        emptyText();
        newObject();
        feedBounds();
        feedFull();
        textIsEmptyThen();
        townBeginsAnew();
        housesToldByTown();
        faultLeavesAll();
        latestFault();
        toldWithoutTown();
        toldOfLent();
        toldOfFullRows();
        toldOutside();
        houseOfEach();
        houseRefused();
        CHECK.end();
    }

    private static LentDrains text(String text, int due, int faultAt) {
        LentDrains x = new LentDrains();
        Check.feedAll(x, text);
        CHECK.is("town() of '" + text + "'", x.town(), due);
        CHECK.is("fault() of '" + text + "'", x.fault(), faultAt);
        return x;
    }

    private static LentDrains good(String text, int houses) {
        return text(text, houses, Check.NONE);
    }

    private static void twoHundredLetters() {
        CHECK.sentence("section 1", "THE TOWN is told in a text (200 letters at most), letter by letter");
        LentDrains x = good("t1 1;" + " ".repeat(188) + "h7 3 9;", 1);
        CHECK.is("told by the last letters", x.house(0, 0), 7);
        text("t1 1;" + " ".repeat(189) + "h7 3 9;", -11, 200);
        text("t1 1;" + " ".repeat(194) + "x", -11, 199);
        text("t1 1;" + " ".repeat(195) + "x", 0, Check.NONE);
    }

    private static void lentLasts() {
        CHECK.sentence("section 1", "LENT lasts L DAYS, 1 .. 60");
        text("t0 1;", -12, 1);
        CHECK.is("L", good("t1 1;", 0).told(0), 1);
        CHECK.is("L", good("t60 1;", 0).told(0), 60);
        text("t61 1;", -12, 1);
        text("t999 1;", -12, 1);
    }

    private static void pipeTakes() {
        CHECK.sentence("section 1", "a pipe takes C an HOUR, 1 .. 99");
        text("t1 0;", -12, 3);
        CHECK.is("C", good("t1 1;", 0).told(1), 1);
        CHECK.is("C", good("t1 99;", 0).told(1), 99);
        text("t1 100;", -12, 3);
        text("t1 999;", -12, 3);
    }

    private static void lentFirstAndOnce() {
        CHECK.sentence("section 1", "first, once");
        text("h0 0 9;t1 1;", -11, 0);
        text("t1 1;t1 1;", -13, 5);
        text("t1 1;h0 0 9;t1 1;", -13, 12);
        good("t1 1;h0 0 9;", 1);
    }

    private static void eightHouses() {
        CHECK.sentence("section 1", "8 HOUSES at most");
        for (int houses = 0; houses <= 8; houses++) {
            good(EIGHT.substring(0, 5 + 7 * houses), houses);
        }
        text(EIGHT + "h0 0 9;", -13, 61);
    }

    private static void rooms() {
        CHECK.sentence("section 1", "ROOM R, 0 .. 999");
        CHECK.is("R", good("t1 1;h0 0 9;", 1).house(0, 0), 0);
        CHECK.is("R", good("t1 1;h999 0 9;", 1).house(0, 0), 999);
        text("t1 1;h1000 0 9;", -12, 6);
        text("t1 1;h-1 0 9;", -11, 6);
    }

    private static void lettingGo() {
        CHECK.sentence("section 1", "lets go M a DAY, 0 .. 99");
        CHECK.is("M", good("t1 1;h0 0 9;", 1).house(0, 1), 0);
        CHECK.is("M", good("t1 1;h0 99 9;", 1).house(0, 1), 99);
        text("t1 1;h0 100 9;", -12, 8);
        text("t1 1;h0 999 9;", -12, 8);
    }

    private static void drainsAhead() {
        CHECK.sentence("section 1", "DRAINS to HOUSE D told ahead, or 9: to the RIVER");
        for (int ahead = 0; ahead < 8; ahead++) {
            String text = EIGHT.substring(0, 5 + 7 * ahead);
            for (int d = 0; d <= 11; d++) {
                String told = text + "h0 0 " + d + ";";
                if (d < ahead || d == 9) {
                    LentDrains x = good(told, ahead + 1);
                    CHECK.is("whither, of '" + told + "'", x.house(ahead, 2), d == 9 ? Check.NONE : d);
                } else {
                    text(told, -12, text.length() + 5);
                }
            }
        }
    }

    private static void figuresOfNumbers() {
        CHECK.sentence("section 1", "NUMBERS have one to three figures");
        good("t1 1;h1 1 9;h1 1 0;", 2);
        good("t01 01;h01 01 09;h01 01 00;", 2);
        LentDrains x = good("t001 001;h001 001 009;h001 001 000;", 2);
        CHECK.is("whither", x.house(1, 2), 0);
        CHECK.is("whither", x.house(0, 2), Check.NONE);
        text("t0001 1;", -12, 1);
        text("t1 0001;", -12, 3);
        text("t1 1;h0001 0 9;", -12, 6);
        text("t1 1;h0 0001 9;", -12, 8);
        text("t1 1;h0 0 0009;", -12, 10);
        text("t" + "0".repeat(198) + "1", -12, 1);
        text("t4294967297 1;", -12, 1);
        text("t18446744073709551617 1;", -12, 1);
        text("t 1;", -11, 3);
        text("t1 1;h;", -11, 6);
    }

    private static void oneLetterWords() {
        CHECK.sentence("section 1", "a word is one letter");
        text("tt1 1;", -11, 1);
        text("t1 1;hh0 0 9;", -11, 6);
        text("t1 1;;", -11, 5);
        text("T1 1;", -11, 0);
        text("t1 1;H0 0 9;", -11, 5);
    }

    private static void blanks() {
        CHECK.sentence("section 1", "blanks (32) may stand anywhere but within NUMBERS");
        LentDrains x = good("   t   60   99   ;   h   999   98   9   ;   h   1   2   0   ;   ", 2);
        CHECK.is("L", x.told(0), 60);
        CHECK.is("R", x.house(0, 0), 999);
        CHECK.is("D", x.house(1, 2), 0);
        good("t60 99;h999 98 9;h1 2 0;", 2);
        text("t6 0 1;", -12, 3);
        text("t6 1 1;", -11, 5);
        text("t1 1;h9 9 9 9;", -11, 12);
        for (int letter : new int[] {0, 9, 10, 13, 160, 255}) {
            text("t1" + (char) letter + "1;", -11, 2);
            text((char) letter + "t1 1;", -11, 0);
        }
    }

    private static void numbersSideBySide() {
        CHECK.sentence("section 1", "two NUMBERS side by side need one");
        text("t11;", -11, 3);
        text("t601;", -12, 1);
        text("t1 1;h00 9;", -11, 10);
        text("t1 1;h0 09;", -11, 10);
        good("t1 1;h0 0 9;", 1);
    }

    private static void firstFaultCounts() {
        CHECK.sentence("section 1", "FAULTS, at the first letter that has one");
        text("t0 0;x", -12, 1);
        text("t1 0;x", -12, 3);
        text("t1 1x", -11, 4);
        text("t1 1;t0 x", -13, 5);
        text("t1 1;h1000 100 8;", -12, 6);
        text("t1 1;h0 100 8;", -12, 8);
        text("t1 1;h0 0 8x", -12, 10);
        text(EIGHT + "x h", -11, 61);
        text("x t1000", -11, 0);
    }

    private static void endAtTheTextsLength() {
        CHECK.sentence("section 1", "the end at the text's length");
        String whole = "t12 34;h56 7 9;";
        for (int length = 0; length <= whole.length(); length++) {
            String part = whole.substring(0, length);
            boolean ends = part.isEmpty() || part.endsWith(";");
            int houses = length == whole.length() ? 1 : 0;
            text(part, ends ? houses : -11, ends ? Check.NONE : length);
            text(part + "  ", ends ? houses : -11, ends ? Check.NONE : length + 2);
        }
    }

    private static void leastFaultAtOneLetter() {
        CHECK.sentence("section 1", "of these the least");
        text("t1 t", -11, 3);
        text("t1 1t", -11, 4);
        text(EIGHT.substring(0, 54) + "h0 h", -11, 57);
        text("t1 1 1000;", -11, 5);
        text("t1 1;1000", -11, 5);
        text("1000", -11, 0);
    }

    /** Each of the 256 letters, in each kind of place. */
    private static void everyLetterInEveryPlace() {
        CHECK.sentence("section 1", "1 it cannot stand there (a letter that is no word, another word first than 't')");
        for (int letter = 0; letter <= 255; letter++) {
            boolean figure = letter >= '0' && letter <= '9';
            boolean blank = letter == ' ';
            String c = String.valueOf((char) letter);
            text(c, blank ? 0 : -11, blank ? Check.NONE : letter == 't' ? 1 : 0);
            boolean word = letter == 't';
            text("t1 1;" + c, blank ? 0 : word ? -13 : -11, blank ? Check.NONE : letter == 'h' ? 6 : 5);
            text("t" + c, letter == '0' ? -12 : -11, blank || figure && letter != '0' ? 2 : 1);
            boolean end = letter == ';';
            text("t1 1" + c, end ? 0 : -11, end ? Check.NONE : blank || figure ? 5 : 4);
            text("t1 1;h" + c, -11, blank || figure ? 7 : 6);
            text("t1 1;h0 0 9" + c, end ? 1 : figure ? -12 : -11, end ? Check.NONE : figure ? 10 : blank ? 12 : 11);
        }
    }

    private static void numbersOutOfBounds() {
        CHECK.sentence("section 1", "a D that is neither told yet nor 9 (at its first)");
        text("t1 1;h0 0 0;", -12, 10);
        text("t1 1;h0 0   010;", -12, 12);
        text("t1 1;h0 0 9;h0 0 1;", -12, 17);
        text(EIGHT.substring(0, 54) + "h0 0 7;", -12, 59);
        text(EIGHT.substring(0, 54) + "h0 0 8;", -12, 59);
        CHECK.sentence("section 1", "2 a NUMBER of four figures or more, or out of its bounds");
        text("t0061 1;", -12, 1);
        text("t   000 1;", -12, 4);
        text("t1   000;", -12, 5);
    }

    private static void againAndNinth() {
        CHECK.sentence("section 1", "3 't' again, a ninth 'h' (at it).");
        text("t1 1;t", -13, 5);
        text("t1 1;  t0 0;", -13, 7);
        text(EIGHT + "t", -13, 61);
        text(EIGHT + "h", -13, 61);
        text(EIGHT + "  h9999 x", -13, 63);
        good(EIGHT + "  ", 8);
    }

    private static void emptyText() {
        CHECK.sentence("section 1", "An empty text: no TOWN.");
        LentDrains x = good("", 0);
        CHECK.is("day(1)", x.day(1), Check.NOT);
        LentDrains later = Check.townOf(Check.FIVE);
        later.day(1);
        CHECK.is("town()", later.town(), 0);
        CHECK.is("fault()", later.fault(), Check.NONE);
        CHECK.is("day(1)", later.day(1), Check.NOT);
        CHECK.unchanged("an empty text", later, Check.picture(new LentDrains()));
        CHECK.is("undo(1)", later.undo(1), Check.NOT);
        LentDrains third = Check.townOf(Check.FIVE);
        Check.feedAll(third, Check.FIVE);
        third.town();
        third.town();
        CHECK.unchanged("an empty text behind two TOWNS", third, Check.picture(new LentDrains()));
    }

    private static void newObject() {
        CHECK.sentence("promise 1", "No TOWN.");
        LentDrains x = new LentDrains();
        for (int what = 0; what <= 12; what++) {
            CHECK.is("told(" + what + ")", x.told(what), 0);
        }
        int[] got = {
            x.house(0, 0), x.day(1), x.pail(0, 1, 1), x.aunt(0, 0), x.hour(1), x.drift(1), x.undo(1), x.level(0, 0),
            x.spills(0), x.spills(60), x.fewest(), x.held(), x.breath(0), x.breath(1), x.breath(2), x.breath(3), x.pulled(0),
            x.pulled(1), x.best(0), x.best(1), x.see(0, true), x.whence(), x.lookAt(), x.write(0, 0), x.judge(), x.tear(),
            x.goBack(0), x.goBack(1), x.seed(0), x.fault()};
        int[] due = {
            Check.UNKNOWN, Check.NOT, Check.UNKNOWN, Check.UNKNOWN, Check.NOT, Check.NOT, Check.NOT, Check.UNKNOWN,
            0, 0, 0, 0, Check.NONE, Check.NONE, Check.NONE, Check.NONE, Check.OUTSIDE,
            Check.OUTSIDE, Check.NONE, Check.NONE, Check.UNKNOWN, 0, Check.NONE, Check.UNKNOWN, Check.NONE, 0,
            Check.NOT, Check.NOT, 0, Check.NONE};
        for (int i = 0; i < due.length; i++) {
            CHECK.is("answer " + i + " of a new object", got[i], due[i]);
        }
    }

    private static void feedBounds() {
        CHECK.sentence("promise 2", "A letter (0 .. 255) comes behind THE TEXT: how many it has.");
        LentDrains x = new LentDrains();
        CHECK.is("feed(-1)", x.feed(-1), Check.OUTSIDE);
        CHECK.is("feed(256)", x.feed(256), Check.OUTSIDE);
        CHECK.is("feed(MIN)", x.feed(Integer.MIN_VALUE), Check.OUTSIDE);
        CHECK.is("feed(MAX)", x.feed(Integer.MAX_VALUE), Check.OUTSIDE);
        CHECK.is("feed('t' + 256)", x.feed('t' + 256), Check.OUTSIDE);
        CHECK.is("feed(0)", x.feed(0), 1);
        CHECK.is("feed(255)", x.feed(255), 2);
        CHECK.is("told(3)", x.told(3), 2);
    }

    private static void feedFull() {
        CHECK.sentence("promise 2", "OUTSIDE, FULL (200).");
        LentDrains x = new LentDrains();
        for (int i = 1; i <= 200; i++) {
            CHECK.is("feed no. " + i, x.feed(' '), i);
        }
        CHECK.is("feed no. 201", x.feed(' '), Check.FULL);
        CHECK.is("feed no. 201 again", x.feed('x'), Check.FULL);
        CHECK.is("told(3)", x.told(3), 200);
        CHECK.is("town()", x.town(), 0);
        CHECK.is("feed behind town()", x.feed(' '), 1);
    }

    private static void textIsEmptyThen() {
        CHECK.sentence("promise 3", "it is empty then, with a FAULT, too");
        String[] texts = {"", " ", "t1 1;", "x", "t0 1;", "t1 1;t"};
        for (String text : texts) {
            LentDrains x = new LentDrains();
            Check.feedAll(x, text);
            x.town();
            CHECK.is("letters behind '" + text + "'", x.told(3), 0);
            CHECK.is("feed behind '" + text + "'", x.feed('t'), 1);
            Check.feedAll(x, "2 3;");
            CHECK.is("town() of what came then", x.town(), 0);
            CHECK.is("L", x.told(0), 2);
        }
    }

    private static void townBeginsAnew() {
        CHECK.sentence("promise 3", "DAY 0, nothing KEPT, SPILLED, in the RIVER, nobody AWAY; nothing SEEN, no BOOK");
        LentDrains x = Check.townOf(Check.FIVE);
        x.seed(5);
        x.keep(0);
        x.keep(1);
        x.day(20);
        x.hour(1);
        x.aunt(2, 9);
        x.see(1, true);
        x.write(1, 0);
        Check.feedAll(x, Check.FIVE);
        CHECK.is("town()", x.town(), 5);
        CHECK.unchanged("the same text again", x, Check.picture(Check.townOf(Check.FIVE)));
        LentDrains third = Check.townOf("t9 9;h9 9 9;h9 9 0;h9 9 1;h9 9 2;h9 9 3;h9 9 4;h9 9 5;h9 9 6;");
        Check.feedAll(third, EIGHT);
        third.town();
        Check.feedAll(third, Check.FIVE);
        third.town();
        CHECK.unchanged("two other TOWNS", third, Check.picture(Check.townOf(Check.FIVE)));
        CHECK.sentence("promise 3", "IMAGES, what could be undone are gone; THE SEED stays");
        CHECK.is("goBack(0)", x.goBack(0), Check.NOT);
        CHECK.is("goBack(1)", x.goBack(1), Check.NOT);
        CHECK.is("undo(1)", x.undo(1), Check.NOT);
        CHECK.is("told(12)", x.told(12), 0);
        CHECK.is("seed(6)", x.seed(6), 5);
    }

    private static void housesToldByTown() {
        CHECK.sentence("promise 3", "how many HOUSES; -10 less the number of its FAULT");
        good("t1 1;", 0);
        good(EIGHT, 8);
        text("x", -11, 0);
        text("t0 1;", -12, 1);
        text("t1 1;t", -13, 5);
    }

    private static void faultLeavesAll() {
        CHECK.sentence("promise 3", "(all is as it was)");
        String[] faults = {"x", "t9 9;h1 1 9;h2 2 7;", "t9 9;h1 1 9;t", "t9 9;h1 1 9"};
        for (String fault : faults) {
            LentDrains x = Check.lived();
            Check.feedAll(x, fault);
            x.town();
            LentDrains y = Check.lived();
            Check.feedAll(y, "x");
            y.town();
            CHECK.unchanged("'" + fault + "'", x, Check.picture(Check.lived()));
            // The letter of the FAULT alone is another one.
            Check.feedAll(x, "x");
            x.town();
            CHECK.same("all behind '" + fault + "'", Check.wholePicture(x), Check.wholePicture(y));
        }
    }

    private static void latestFault() {
        CHECK.sentence("promise 4", "The letter of the FAULT of the latest town(); NONE.");
        LentDrains x = new LentDrains();
        CHECK.is("fault() of none", x.fault(), Check.NONE);
        Check.feedAll(x, "t1 x");
        CHECK.is("fault() ahead of town()", x.fault(), Check.NONE);
        x.town();
        CHECK.is("fault()", x.fault(), 3);
        Check.feedAll(x, "t1 1;x");
        CHECK.is("fault() of the latest", x.fault(), 3);
        x.town();
        CHECK.is("fault()", x.fault(), 5);
        Check.feedAll(x, "t1 1;");
        x.town();
        CHECK.is("fault() of a good one", x.fault(), Check.NONE);
        Check.feedAll(x, "y");
        x.town();
        CHECK.is("fault() at the first letter", x.fault(), 0);
        x.town();
        CHECK.is("fault() of an empty text", x.fault(), Check.NONE);
    }

    private static void toldWithoutTown() {
        CHECK.sentence("promise 5", "5 1 it is LENT, 0 not (no TOWN: 0)");
        CHECK.is("told(5) without a TOWN", new LentDrains().told(5), 0);
        LentDrains x = Check.townOf(Check.FIVE);
        x.town();
        CHECK.is("told(5) without a TOWN any more", x.told(5), 0);
    }

    private static void toldOfLent() {
        CHECK.sentence("promise 5", "4 DAYS, 5 1 it is LENT, 0 not");
        LentDrains x = Check.townOf("t2 1;");
        for (int day = 0; day < 4; day++) {
            CHECK.is("told(4)", x.told(4), day);
            CHECK.is("told(5) on DAY " + day, x.told(5), day < 2 ? 1 : 0);
            x.day(1);
        }
    }

    private static void toldOfFullRows() {
        CHECK.sentence("promise 5", "9 who is AWAY (a SET), 10 what was SEEN, 11 entries of THE BOOK, 12 how many can be undone");
        LentDrains x = Check.townOf(EIGHT);
        for (int i = 0; i < 40; i++) {
            x.aunt(i % 8, 60);
            x.see(0, true);
            x.write(0, 0);
            x.feed(' ');
        }
        CHECK.is("told(3)", x.told(3), 40);
        CHECK.is("told(9)", x.told(9), 255);
        CHECK.is("told(10)", x.told(10), 6);
        CHECK.is("told(11)", x.told(11), 20);
        CHECK.is("told(12)", x.told(12), 30);
    }

    private static void toldOutside() {
        CHECK.sentence("promise 5", "OUTSIDE.");
        for (LentDrains x : new LentDrains[] {new LentDrains(), Check.townOf(Check.FIVE)}) {
            for (int what : new int[] {-1, 13, 14, Integer.MIN_VALUE, Integer.MAX_VALUE}) {
                CHECK.is("told(" + what + ")", x.told(what), Check.OUTSIDE);
            }
        }
    }

    private static void houseOfEach() {
        CHECK.sentence("promise 6", "2 whither it DRAINS (NONE: the RIVER)");
        LentDrains x = Check.townOf("t9 1;h999 99 9;h0 0 0;h5 7 1;");
        CHECK.is("house(0, 2)", x.house(0, 2), Check.NONE);
        CHECK.is("house(1, 2)", x.house(1, 2), 0);
        CHECK.is("house(2, 2)", x.house(2, 2), 1);
        CHECK.sentence("promise 6", "3 what it KEEPS, 4 DAYS that it is AWAY yet, 5 ABOVE (a SET)");
        x.aunt(2, 1);
        CHECK.is("house(2, 4)", x.house(2, 4), 1);
        x.day(1);
        CHECK.is("house(2, 3)", x.house(2, 3), 0);
        CHECK.is("house(2, 4)", x.house(2, 4), 0);
        x.day(2);
        CHECK.is("house(0, 3)", x.house(0, 3), 297);
        CHECK.is("house(1, 3)", x.house(1, 3), 0);
        CHECK.is("house(2, 3): its ROOM", x.house(2, 3), 5);
        CHECK.is("house(0, 5)", x.house(0, 5), 7);
        CHECK.is("house(2, 5)", x.house(2, 5), 4);
    }

    private static void houseRefused() {
        CHECK.sentence("promise 6", "UNKNOWN, OUTSIDE.");
        LentDrains x = Check.townOf(EIGHT);
        CHECK.is("house(-1, 0)", x.house(-1, 0), Check.UNKNOWN);
        CHECK.is("house(8, 0)", x.house(8, 0), Check.UNKNOWN);
        CHECK.is("house(7, 0)", x.house(7, 0), 0);
        CHECK.is("house(7, -1)", x.house(7, -1), Check.OUTSIDE);
        CHECK.is("house(7, 6)", x.house(7, 6), Check.OUTSIDE);
        CHECK.is("house(8, 6)", x.house(8, 6), Check.UNKNOWN);
        CHECK.is("house(0, MAX)", x.house(0, Integer.MAX_VALUE), Check.OUTSIDE);
    }
}
