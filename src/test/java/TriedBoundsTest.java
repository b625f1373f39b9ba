import java.util.Arrays;

/** What section 3 says of what is TRIED, and promises 13 to 20: each bound by itself. */
public final class TriedBoundsTest {
    private static final String LINE_OF_EIGHT = "t60 1;h9 1 9;h9 1 0;h9 1 1;h9 1 2;h9 1 3;h9 1 4;h9 1 5;h9 1 6;";

    private static final Check CHECK = new Check();

    public static void main(String[] args) {
        nothingChanges();
        levelOfDays();
        levelUpToTheRoom();
        spillsOfDays();
        aboveOthersAndItself();
        streamsByTheirLast();
        fewestUpToTheRoom();
        fewestAndLeast();
        fewestTillLentIsOver();
        fewestOfThoseAwayNow();
        heldUpToOverAndRoom();
        heldByOnePipe();
        heldAtMost();
        heldNobodyAway();
        breathOfHours();
        breathSpills();
        breathGreatest();
        breathOfLikeOnes();
        breathOfMoreHours();
        pulledByEachOrder();
        pulledAboveRoom();
        ordersOfSix();
        bestOrder();
        bestWithoutOrder();
        dryDays();
        dryCutEach();
        levelRefused();
        spillsRefused();
        fewestIsNobody();
        heldBehindLent();
        breathWithoutHouses();
        breathRefused();
        noSuchOrder();
        bestRefused();
        dryRefused();
        CHECK.end();
    }

    private static LentDrains lived() {
        LentDrains x = Check.lived();
        Check.feedAll(x, "t1 1;h2 3 9;");
        return x;
    }

    private static void nothingChanges() {
        CHECK.sentence("section 3", "TRIED from now; nothing changes by it.");
        LentDrains x = lived();
        for (int i = 0; i < 4; i++) {
            x.level(i, 60);
            x.spills(60 - i);
            x.breath(i);
            x.best(i);
            x.dry(i, 50);
        }
        x.fewest();
        x.held();
        x.pulled(12345);
        x.pulled(54321);
        x.whence();
        x.lookAt();
        x.judge();
        CHECK.same("all behind them", Check.wholePicture(x), Check.wholePicture(lived()));
        LentDrains twice = lived();
        twice.breath(0);
        twice.spills(60);
        CHECK.is("level(3, 2)", twice.level(3, 2), lived().level(3, 2));
        CHECK.is("spills(9)", twice.spills(9), lived().spills(9));
        CHECK.is("breath(1)", twice.breath(1), lived().breath(1));
    }

    private static void levelOfDays() {
        CHECK.sentence("section 3", "LEVEL: what a HOUSE KEEPS behind n DAYS (0 .. 60).");
        LentDrains x = Check.townOf("t60 1;h999 2 9;");
        CHECK.is("level(0, 0)", x.level(0, 0), 0);
        CHECK.is("level(0, 1)", x.level(0, 1), 2);
        CHECK.is("level(0, 59)", x.level(0, 59), 118);
        CHECK.is("level(0, 60)", x.level(0, 60), 120);
        x.day(5);
        CHECK.is("level(0, 0)", x.level(0, 0), 10);
        CHECK.is("level(0, 55)", x.level(0, 55), 120);
        CHECK.is("level(0, 56): behind LENT", x.level(0, 56), 120);
        x.aunt(0, 3);
        CHECK.is("level(0, 3), AWAY", x.level(0, 3), 10);
        CHECK.is("level(0, 4), back", x.level(0, 4), 12);
    }

    private static void levelUpToTheRoom() {
        CHECK.sentence("promise 13", "LEVEL.");
        LentDrains x = Check.townOf("t9 1;h10 5 9;h0 5 9;h999 0 9;");
        CHECK.is("level(0, 2)", x.level(0, 2), 10);
        CHECK.is("level(0, 3)", x.level(0, 3), 10);
        CHECK.is("level(1, 60)", x.level(1, 60), 0);
        CHECK.is("level(2, 60)", x.level(2, 60), 0);
    }

    private static void spillsOfDays() {
        CHECK.sentence("section 3", "SPILLS: how much in all by n DAYS.");
        LentDrains x = Check.townOf("t60 1;h10 5 9;h0 1 9;");
        CHECK.is("spills(0)", x.spills(0), 0);
        CHECK.is("spills(2)", x.spills(2), 2);
        CHECK.is("spills(3)", x.spills(3), 8);
        CHECK.is("spills(60)", x.spills(60), 350);
        x.day(3);
        CHECK.is("spills(0) behind DAYS", x.spills(0), 0);
        CHECK.is("spills(57)", x.spills(57), 342);
        CHECK.is("spills(60): LENT is over", x.spills(60), 342);
        x.aunt(0, 60);
        CHECK.is("spills(60), one AWAY", x.spills(60), 57);
        CHECK.is("spills(60) without a TOWN", new LentDrains().spills(60), 0);
    }

    private static void aboveOthersAndItself() {
        CHECK.sentence("section 3", "ABOVE: HOUSES (a SET) from which it comes by a HOUSE (over others, too; itself).");
        LentDrains line = Check.townOf(LINE_OF_EIGHT);
        for (int h = 0; h < 8; h++) {
            CHECK.is("house(" + h + ", 5) of a line", line.house(h, 5), 255 & -1 << h);
        }
        LentDrains star = Check.townOf("t9 1;h0 0 9;h0 0 0;h0 0 0;h0 0 9;h0 0 2;");
        int[] due = {23, 2, 20, 8, 16};
        for (int h = 0; h < due.length; h++) {
            CHECK.is("house(" + h + ", 5)", star.house(h, 5), due[h]);
        }
    }

    private static void streamsByTheirLast() {
        CHECK.sentence("section 3", "A STREAM: all HOUSES from which it comes to the RIVER by one and the same last HOUSE.");
        // House 0's stream is 0, 2, 4 (over 2, too): as much as its room; house 1's is 1, 3: 1 too much.
        LentDrains x = Check.townOf("t10 1;h10 1 9;h19 1 9;h0 1 0;h0 1 1;h20 1 2;");
        CHECK.is("fewest()", x.fewest(), 2);
        LentDrains y = Check.townOf("t10 1;h10 1 9;h20 1 9;h0 1 0;h0 1 1;h19 1 2;");
        CHECK.is("fewest()", y.fewest(), 1);
    }

    private static void fewestUpToTheRoom() {
        CHECK.sentence("section 3", "what is KEPT and what the others let go till then is no more than ROOM of all its HOUSES together");
        CHECK.is("as much as the ROOM", Check.townOf("t10 5;h10 1 9;h10 1 0;").fewest(), 0);
        CHECK.is("1 more", Check.townOf("t10 5;h10 1 9;h9 1 0;").fewest(), 1);
        LentDrains x = Check.townOf("t10 5;h20 1 9;h0 1 0;");
        CHECK.is("what can be carried", x.fewest(), 0);
        x.day(1);
        // 1 SPILLED, so there is ROOM for 1 more than they let go.
        CHECK.is("what is KEPT", x.fewest(), 0);
        LentDrains y = Check.townOf("t10 5;h11 2 9;h0 1 0;");
        CHECK.is("ROOM for 11 of 30", y.fewest(), 1);
        y.day(1);
        CHECK.is("2 KEPT, ROOM for 9 of 27", y.fewest(), 1);
        LentDrains z = Check.townOf("t2 5;h10 9 9;h0 1 0;");
        z.day(1);
        CHECK.is("9 KEPT, ROOM for 1 of 10", z.fewest(), 1);
    }

    private static void fewestAndLeast() {
        CHECK.sentence("section 3", "as few as can be");
        CHECK.is("one great for two small ones", Check.townOf("t10 5;h20 1 9;h0 1 0;h0 2 0;").fewest(), 4);
        CHECK.is("all of them", Check.townOf("t1 1;h0 1 9;h0 1 9;h0 1 0;h0 1 1;h0 1 2;h0 1 0;h0 1 9;h0 1 9;").fewest(), 255);
        CHECK.is("all but who lets nothing go", Check.townOf("t1 1;h0 1 9;h0 0 9;h0 1 0;h0 0 1;h0 1 2;").fewest(), 21);
        CHECK.sentence("section 3", "(PAILS may be carried at will; those who are AWAY now are not, but by this); of like ones the least");
        CHECK.is("two of three", Check.townOf("t10 5;h10 1 9;h0 1 0;h0 1 0;").fewest(), 3);
        CHECK.is("one of four", Check.townOf("t10 5;h40 1 9;h0 2 0;h0 1 0;h0 1 0;").fewest(), 1);
        CHECK.is("the first that does", Check.townOf("t10 5;h40 1 9;h0 2 0;h0 2 0;h0 1 0;").fewest(), 2);
    }

    private static void fewestTillLentIsOver() {
        CHECK.sentence("section 3", "FEWEST AWAY: HOUSES (a SET) that must be AWAY from now on till LENT is over");
        LentDrains x = Check.townOf("t3 5;h5 2 9;");
        CHECK.is("6 come to 5", x.fewest(), 1);
        x.day(2);
        CHECK.is("4 KEPT, 2 to come", x.fewest(), 1);
        x.day(1);
        CHECK.is("LENT is over", x.fewest(), 0);
        LentDrains y = Check.townOf("t3 5;h6 2 9;");
        CHECK.is("6 come to 6", y.fewest(), 0);
        y.day(2);
        CHECK.is("4 KEPT, 2 to come", y.fewest(), 0);
    }

    private static void fewestOfThoseAwayNow() {
        CHECK.sentence("section 3", "those who are AWAY now are not, but by this");
        LentDrains x = Check.townOf("t10 5;h10 1 9;h0 1 0;");
        x.aunt(1, 60);
        CHECK.is("fewest(), HOUSE 1 AWAY", x.fewest(), 1);
        x.aunt(0, 60);
        CHECK.is("fewest(), both AWAY", x.fewest(), 1);
    }

    private static void heldUpToOverAndRoom() {
        CHECK.sentence("section 3", "of what each HOUSE KEEPS and lets go till LENT is over");
        CHECK.is("less ROOM than is above", Check.townOf("t2 5;h0 6 9;h11 0 0;").held(), 11);
        CHECK.is("as much ROOM", Check.townOf("t2 5;h0 6 9;h12 0 0;").held(), 12);
        CHECK.is("more ROOM", Check.townOf("t2 5;h0 6 9;h13 0 0;").held(), 12);
        CHECK.is("nothing above", Check.townOf("t2 5;h12 6 9;h13 0 0;").held(), 0);
        CHECK.is("1 above, ROOM in the one that drains to it", Check.townOf("t2 5;h11 6 9;h13 0 0;").held(), 1);
        CHECK.is("1 above, ROOM where it drains to", Check.townOf("t2 5;h13 0 9;h11 6 0;").held(), 1);
        CHECK.is("no more than is above by two", Check.townOf("t1 5;h0 5 9;h4 0 0;h4 0 0;").held(), 5);
        CHECK.is("its own first", Check.townOf("t2 5;h0 6 9;h13 5 0;").held(), 3);
        CHECK.is("all the others are above, too", Check.townOf("t2 5;h0 6 9;h0 5 0;").held(), 0);
    }

    private static void heldByOnePipe() {
        CHECK.sentence("section 3", "may hold as much, if a pipe joins them to it");
        CHECK.is("from below", Check.townOf("t1 5;h9 0 9;h0 5 0;").held(), 5);
        CHECK.is("from above", Check.townOf("t1 5;h0 5 9;h9 0 0;").held(), 5);
        CHECK.is("over another one", Check.townOf("t1 5;h9 0 9;h0 0 0;h0 5 1;").held(), 0);
        CHECK.is("by the same one", Check.townOf("t1 5;h0 0 9;h9 0 0;h0 5 0;").held(), 0);
        CHECK.is("by the RIVER", Check.townOf("t1 5;h9 0 9;h0 5 9;").held(), 0);
    }

    private static void heldAtMost() {
        CHECK.sentence("section 3", "how much can be HELD in all at most");
        // A line: 1 by 0 or 2, 3 by 2 alone; and the other way round.
        CHECK.is("4 by 0, 5 by 2", Check.townOf("t1 5;h4 0 9;h0 4 0;h5 0 1;h0 5 2;").held(), 9);
        CHECK.is("4 of 0, 5 of 2", Check.townOf("t1 5;h0 4 9;h4 0 0;h0 5 1;h5 0 2;").held(), 9);
        CHECK.is("two for one", Check.townOf("t1 5;h0 9 9;h4 0 0;h4 0 0;").held(), 8);
        CHECK.is("one for two", Check.townOf("t1 5;h9 0 9;h0 5 0;h0 5 0;").held(), 9);
        CHECK.is("two streams", Check.townOf("t1 5;h9 0 9;h0 5 0;h9 0 9;h0 6 2;").held(), 11);
        CHECK.is("of two, one has another", Check.townOf("t1 5;h5 0 9;h0 5 0;h0 5 0;h5 0 2;").held(), 10);
        String alternating = "t60 1;h0 99 9;h999 0 0;h0 99 1;h999 0 2;h0 99 3;h999 0 4;h0 99 5;h999 0 6;";
        CHECK.is("the greatest", Check.townOf(alternating).held(), 4 * 999);
    }

    private static void heldNobodyAway() {
        CHECK.sentence("section 3", "(nobody AWAY)");
        LentDrains x = Check.townOf("t2 5;h0 6 9;h99 0 0;");
        x.aunt(0, 60);
        CHECK.is("held()", x.held(), 12);
        x.day(1);
        CHECK.is("held() a DAY later", x.held(), 6);
    }

    private static void breathOfHours() {
        CHECK.sentence("section 3", "till all is gone from the HOUSES (999 at most: NONE)");
        LentDrains x = Check.townOf("t60 1;h999 99 9;h1 0 0;");
        CHECK.is("nothing KEPT", x.breath(0), 0);
        x.day(11);
        CHECK.is("999 HOURS", x.breath(0), 999);
        LentDrains y = Check.townOf("t60 1;h999 99 9;h1 1 0;");
        y.day(11);
        CHECK.is("1000 HOURS", y.breath(0), Check.NONE);
        y.pail(0, 1, 1);
        CHECK.is("1000 HOURS", y.breath(0), Check.NONE);
        LentDrains wide = Check.townOf("t60 99;h999 99 9;");
        wide.day(11);
        CHECK.is("999 by 99 an HOUR", wide.breath(0), 11);
        CHECK.sentence("section 3", "BREATH: HOURS (as if LENT were over, no DAY passing)");
        CHECK.is("in LENT", wide.told(5), 1);
        CHECK.is("no DAY", wide.told(4), 11);
        LentDrains line = Check.townOf("t1 5;h9 0 9;h9 0 0;h9 0 1;h9 5 2;");
        line.day(1);
        CHECK.is("by four pipes", line.breath(0), 4);
    }

    private static void breathSpills() {
        CHECK.sentence("section 3", "how much SPILLS by it");
        LentDrains x = Check.townOf("t2 5;h7 5 9;h5 5 0;h5 5 0;");
        x.day(1);
        // 5, 5, 5: 5 go, 10 come to 7.
        CHECK.breath("10 come to 7", x, 3, 3, 7, 0);
        x.day(1);
        CHECK.is("SPILLED ahead of it", x.told(7), 13);
        CHECK.breath("12 come to 7", x, 3, 5, 7, 0);
    }

    private static void breathGreatest() {
        CHECK.sentence("section 3", "the greatest that one HOUSE KEEPS behind any HOUR (now, too)");
        LentDrains now = Check.townOf("t1 5;h9 9 9;");
        now.day(1);
        CHECK.breath("now", now, 2, 0, 9, 0);
        LentDrains later = Check.townOf("t1 5;h99 1 9;h9 5 0;h9 5 0;h9 5 0;");
        later.day(1);
        CHECK.breath("behind an HOUR", later, 4, 0, 15, 0);
        LentDrains never = Check.townOf("t1 5;h12 1 9;h9 5 0;h9 5 0;h9 5 0;");
        never.day(1);
        CHECK.breath("up to the ROOM", never, 4, 3, 12, 0);
    }

    private static void breathOfLikeOnes() {
        CHECK.sentence("section 3", "which HOUSE that is (of like ones the first HOUR, then the least)");
        LentDrains x = Check.townOf("t1 5;h9 0 9;h9 5 0;h9 5 1;");
        x.day(1);
        CHECK.breath("HOUSE 1 now, 0 behind an HOUR", x, 3, 0, 5, 1);
        LentDrains y = Check.townOf("t1 5;h9 0 9;h9 0 9;h9 4 1;h9 4 0;");
        y.day(1);
        CHECK.breath("2 and 3 now", y, 2, 0, 4, 2);
        LentDrains z = Check.townOf("t1 2;h9 0 9;h9 0 9;h9 2 1;h9 2 0;h9 2 1;h9 2 0;");
        z.day(1);
        CHECK.breath("0 and 1 behind an HOUR", z, 3, 0, 4, 0);
        CHECK.breath("nothing KEPT", Check.townOf("t1 2;h9 0 9;h9 0 9;"), 0, 0, 0, 0);
    }

    private static void breathOfMoreHours() {
        CHECK.sentence("section 3", "all of 999 HOURS, if it takes more");
        // Behind the second HOUR 1 comes to HOUSE 0 each HOUR, behind the third 2 do: 998 behind 999
        // HOURS, and only then 999.
        LentDrains x = Check.townOf("t60 1;h999 0 9;h9 0 0;h500 50 1;h500 50 2;h9 0 0;h9 0 4;h500 50 5;h500 50 6;");
        x.day(10);
        CHECK.breath("the greatest comes last", x, Check.NONE, 0, 998, 0);
        LentDrains spilling = Check.townOf("t60 1;h0 0 9;h999 99 0;h999 99 1;");
        spilling.day(30);
        CHECK.breath("1998 would SPILL", spilling, Check.NONE, 999, 999, 1);
    }

    private static void pulledByEachOrder() {
        CHECK.sentence("section 3", "what a HOUSE KEEPS, and all that stands in it, goes down as far as plugs are pulled");
        LentDrains x = Check.townOf("t9 1;h5 5 9;h7 7 0;h9 9 1;");
        x.day(1);
        int[][] due = {{123, 9}, {132, 16}, {213, 12}, {231, 21}, {312, 16}, {321, 21}};
        for (int[] row : due) {
            CHECK.is("pulled(" + row[0] + ")", x.pulled(row[0]), row[1]);
        }
        LentDrains apart = Check.townOf("t9 1;h5 5 9;h7 7 9;");
        apart.day(1);
        CHECK.is("pulled(12)", apart.pulled(12), 7);
        CHECK.is("pulled(21)", apart.pulled(21), 7);
        CHECK.sentence("promise 18", "PULLED.");
        CHECK.is("pulled(1), nothing KEPT", Check.townOf("t9 1;h5 5 9;").pulled(1), 0);
    }

    private static void pulledAboveRoom() {
        CHECK.sentence("section 3", "there it stands (above ROOM, too): the greatest that ever stood in one");
        LentDrains x = Check.townOf("t9 1;h0 0 9;h9 9 0;h9 9 1;");
        x.day(1);
        CHECK.is("18 in no ROOM", x.pulled(321), 18);
        CHECK.is("18 in ROOM for 9", x.pulled(132), 18);
        CHECK.is("what is KEPT now", x.pulled(123), 9);
        CHECK.is("nothing SPILLED", x.told(7), 0);
        LentDrains most = Check.townOf("t60 1;h999 99 9;h999 99 0;h999 99 1;h999 99 2;h999 99 3;h999 99 4;");
        most.day(30);
        CHECK.is("the greatest", most.pulled(654321), 5994);
    }

    private static void ordersOfSix() {
        CHECK.sentence("section 3", "each 1 more than the HOUSE, each once, all of them; 6 at most");
        for (int houses = 1; houses <= 6; houses++) {
            String text = LINE_OF_EIGHT.substring(0, 6 + 7 * houses);
            LentDrains x = Check.townOf(text);
            x.day(1);
            int order = Integer.parseInt("123456".substring(0, houses));
            CHECK.is("pulled(" + order + ")", x.pulled(order), 1);
            int back = Integer.parseInt("654321".substring(6 - houses));
            CHECK.is("pulled(" + back + ")", x.pulled(back), houses);
            CHECK.is("one too few", x.pulled(order / 10), Check.OUTSIDE);
            CHECK.is("one too many", x.pulled(order * 10 + houses + 1), Check.OUTSIDE);
            CHECK.is("one twice", x.pulled(order * 10 + 1), Check.OUTSIDE);
            CHECK.is("a 0 behind", x.pulled(order * 10), Check.OUTSIDE);
            CHECK.is("1 too great", x.pulled(order + 1), Check.OUTSIDE);
            CHECK.is("below 0", x.pulled(-order), Check.OUTSIDE);
        }
    }

    /** Every number up to 1300, for three HOUSES. */
    private static void noSuchOrder() {
        CHECK.sentence("promise 18", "OUTSIDE: no such ORDER (more than 6 HOUSES, none).");
        for (int order = -400; order <= 1300; order++) {
            char[] figures = Integer.toString(order).toCharArray();
            Arrays.sort(figures);
            boolean good = new String(figures).equals("123");
            CHECK.is("pulled(" + order + ")", Check.townOf("t9 1;h5 5 9;h7 7 0;h9 9 1;").pulled(order), good ? 0 : Check.OUTSIDE);
        }
        for (int order : new int[] {Integer.MAX_VALUE, Integer.MIN_VALUE, 1000000123, -2147483525, 11123}) {
            CHECK.is("pulled(" + order + ")", Check.townOf("t9 1;h5 5 9;h7 7 0;h9 9 1;").pulled(order), Check.OUTSIDE);
        }
        LentDrains seven = Check.townOf(LINE_OF_EIGHT.substring(0, 55));
        CHECK.is("HOUSES", seven.told(2), 7);
        CHECK.is("pulled(1234567) of 7", seven.pulled(1234567), Check.OUTSIDE);
        CHECK.is("pulled(123456) of 7", seven.pulled(123456), Check.OUTSIDE);
        LentDrains eight = Check.townOf(LINE_OF_EIGHT);
        CHECK.is("pulled(12345678) of 8", eight.pulled(12345678), Check.OUTSIDE);
        CHECK.is("pulled(0) of none", Check.townOf("t1 1;").pulled(0), Check.OUTSIDE);
        CHECK.is("pulled(1) of none", Check.townOf("t1 1;").pulled(1), Check.OUTSIDE);
        CHECK.is("pulled(0) without a TOWN", new LentDrains().pulled(0), Check.OUTSIDE);
    }

    private static void bestOrder() {
        CHECK.sentence("section 3", "BEST ORDER: by which that is least; of like ones the least number; what it is");
        for (int houses = 1; houses <= 6; houses++) {
            LentDrains x = Check.townOf(LINE_OF_EIGHT.substring(0, 6 + 7 * houses));
            int order = Integer.parseInt("123456".substring(0, houses));
            CHECK.is("best(0), nothing KEPT", x.best(0), order);
            CHECK.is("best(1), nothing KEPT", x.best(1), 0);
            x.day(4);
            CHECK.is("best(0)", x.best(0), order);
            CHECK.is("best(1)", x.best(1), 4);
            CHECK.is("pulled() by it", x.pulled(x.best(0)), 4);
        }
        LentDrains apart = Check.townOf("t9 1;h5 5 9;h7 7 9;h9 9 1;");
        apart.day(1);
        CHECK.is("best(0) of like ones", apart.best(0), 123);
        CHECK.is("best(1)", apart.best(1), 9);
    }

    private static void bestWithoutOrder() {
        CHECK.sentence("section 3", "NONE: no HOUSES, more than 6.");
        String[] texts = {"", "t1 1;", LINE_OF_EIGHT.substring(0, 55), LINE_OF_EIGHT};
        for (String text : texts) {
            LentDrains x = Check.townOf(text);
            CHECK.is("best(0) of '" + text + "'", x.best(0), Check.NONE);
            CHECK.is("best(1) of '" + text + "'", x.best(1), Check.NONE);
        }
    }

    private static void dryDays() {
        CHECK.sentence("section 3", "DRY: odds of n (0 .. 60) DAYS without rain, each by q of a hundred (0 .. 100)");
        LentDrains x = new LentDrains();
        CHECK.is("dry(0, 0)", x.dry(0, 0), 1000000000);
        CHECK.is("dry(0, 100)", x.dry(0, 100), 1000000000);
        CHECK.is("dry(1, 0)", x.dry(1, 0), 0);
        CHECK.is("dry(1, 1)", x.dry(1, 1), 10000000);
        CHECK.is("dry(1, 99)", x.dry(1, 99), 990000000);
        CHECK.is("dry(60, 0)", x.dry(60, 0), 0);
        CHECK.is("dry(60, 99)", x.dry(60, 99), 547156620);
        CHECK.is("dry(60, 100)", x.dry(60, 100), 1000000000);
    }

    private static void dryCutEach() {
        CHECK.sentence("section 3", "a BILLION times q / 100 each (cut)");
        LentDrains x = new LentDrains();
        // 10000000, 100000, 1000, 10, 0.1; and 15: 1000000000 * 0.15 .. 11390.625, 1708.5 by the cut one.
        CHECK.is("dry(4, 1)", x.dry(4, 1), 10);
        CHECK.is("dry(5, 1)", x.dry(5, 1), 0);
        CHECK.is("dry(6, 15)", x.dry(6, 15), 11390);
        CHECK.is("dry(7, 15)", x.dry(7, 15), 1708);
        CHECK.is("dry(8, 15): 256.2 of 1708", x.dry(8, 15), 256);
        CHECK.is("dry(9, 15): 38.4", x.dry(9, 15), 38);
        CHECK.is("dry(10, 15): 5.7, not 5.766", x.dry(10, 15), 5);
        CHECK.is("dry(11, 15): 0.75, where 0.86 was", x.dry(11, 15), 0);
        // Of one DAY to the next, so each is cut.
        for (int n = 1; n <= 60; n++) {
            CHECK.is("dry(" + n + ", 73)", x.dry(n, 73), (int) (x.dry(n - 1, 73) * 73L / 100));
        }
    }

    private static void levelRefused() {
        CHECK.sentence("promise 13", "UNKNOWN, OUTSIDE.");
        LentDrains x = Check.townOf(Check.FIVE);
        for (int n : new int[] {-1, 61, Integer.MIN_VALUE, Integer.MAX_VALUE}) {
            CHECK.is("level(0, " + n + ")", x.level(0, n), Check.OUTSIDE);
            CHECK.is("level(5, " + n + ")", x.level(5, n), Check.UNKNOWN);
        }
        CHECK.is("level(4, 60)", x.level(4, 60), 12);
        CHECK.is("level(-1, 0)", x.level(-1, 0), Check.UNKNOWN);
        CHECK.is("level(0, 0) without a TOWN", new LentDrains().level(0, 0), Check.UNKNOWN);
    }

    private static void spillsRefused() {
        CHECK.sentence("promise 14", "SPILLS. OUTSIDE.");
        LentDrains x = Check.townOf(Check.FIVE);
        for (int n : new int[] {-1, 61, Integer.MIN_VALUE, Integer.MAX_VALUE}) {
            CHECK.is("spills(" + n + ")", x.spills(n), Check.OUTSIDE);
            CHECK.is("spills(" + n + ") without a TOWN", new LentDrains().spills(n), Check.OUTSIDE);
        }
        CHECK.is("spills(0)", x.spills(0), 0);
        CHECK.is("spills(60)", x.spills(60), 10);
    }

    private static void fewestIsNobody() {
        CHECK.sentence("promise 15", "FEWEST AWAY (nobody needs to be: 0; LENT is over: 0).");
        CHECK.is("nobody needs to be", Check.townOf("t9 1;h999 0 9;").fewest(), 0);
        CHECK.is("nobody of eight", Check.townOf("t9 1;h9 1 9;h9 1 9;h9 1 9;h9 1 9;h9 1 9;h9 1 9;h9 1 9;h9 1 9;").fewest(), 0);
        CHECK.is("without HOUSES", Check.townOf("t9 1;").fewest(), 0);
        CHECK.is("without a TOWN", new LentDrains().fewest(), 0);
        LentDrains x = Check.townOf("t2 1;h0 99 9;h5 99 0;");
        CHECK.is("in LENT", x.fewest(), 3);
        x.day(1);
        CHECK.is("on its last DAY", x.fewest(), 3);
        x.day(1);
        CHECK.is("LENT is over", x.fewest(), 0);
        x.day(30);
        CHECK.is("long over", x.fewest(), 0);
    }

    private static void heldBehindLent() {
        CHECK.sentence("promise 16", "HELD (LENT is over: by what is KEPT alone).");
        LentDrains x = Check.townOf("t2 1;h5 9 9;h50 0 0;");
        CHECK.is("in LENT", x.held(), 13);
        x.day(1);
        CHECK.is("on its last DAY", x.held(), 9);
        x.day(1);
        CHECK.is("LENT is over", x.held(), 0);
        x.day(30);
        CHECK.is("long over", x.held(), 0);
        CHECK.is("without HOUSES", Check.townOf("t9 1;").held(), 0);
        CHECK.is("without a TOWN", new LentDrains().held(), 0);
    }

    private static void breathWithoutHouses() {
        CHECK.sentence("promise 17", "NONE without HOUSES");
        CHECK.breath("without HOUSES", Check.townOf("t1 1;"), Check.NONE, Check.NONE, Check.NONE, Check.NONE);
        CHECK.breath("without a TOWN", new LentDrains(), Check.NONE, Check.NONE, Check.NONE, Check.NONE);
        CHECK.breath("one HOUSE without ROOM", Check.townOf("t1 1;h0 0 9;"), 0, 0, 0, 0);
    }

    private static void breathRefused() {
        CHECK.sentence("promise 17", "OUTSIDE.");
        for (int what : new int[] {-1, 4, Integer.MIN_VALUE, Integer.MAX_VALUE}) {
            CHECK.is("CHECK.breath(" + what + ")", Check.townOf(Check.FIVE).breath(what), Check.OUTSIDE);
            CHECK.is("CHECK.breath(" + what + ") without HOUSES", Check.townOf("t1 1;").breath(what), Check.OUTSIDE);
        }
    }

    private static void bestRefused() {
        CHECK.sentence("promise 19", "BEST ORDER: what = 0 the ORDER, 1 what it is; NONE. OUTSIDE.");
        for (int what : new int[] {-1, 2, Integer.MIN_VALUE, Integer.MAX_VALUE}) {
            CHECK.is("best(" + what + ")", Check.townOf(Check.FIVE).best(what), Check.OUTSIDE);
            CHECK.is("best(" + what + ") of 8", Check.townOf(LINE_OF_EIGHT).best(what), Check.OUTSIDE);
            CHECK.is("best(" + what + ") without a TOWN", new LentDrains().best(what), Check.OUTSIDE);
        }
        CHECK.is("best(0)", Check.townOf(Check.FIVE).best(0), 12345);
        CHECK.is("best(1)", Check.townOf(Check.FIVE).best(1), 0);
    }

    private static void dryRefused() {
        CHECK.sentence("promise 20", "DRY. OUTSIDE.");
        LentDrains x = new LentDrains();
        for (int wrong : new int[] {-1, 101, Integer.MIN_VALUE, Integer.MAX_VALUE}) {
            CHECK.is("dry(" + wrong + ", 1)", x.dry(wrong, 1), Check.OUTSIDE);
            CHECK.is("dry(1, " + wrong + ")", x.dry(1, wrong), Check.OUTSIDE);
            CHECK.is("dry(0, " + wrong + ")", x.dry(0, wrong), Check.OUTSIDE);
        }
        CHECK.is("dry(61, 100)", x.dry(61, 100), Check.OUTSIDE);
        CHECK.is("dry(60, 100)", x.dry(60, 100), 1000000000);
    }
}
