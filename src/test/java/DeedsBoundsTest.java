import java.lang.reflect.Field;
import java.math.BigInteger;

/** Section 2, what section 3 says of DRAWS and of what is UNDONE, and promises 7 to 12: each bound by itself. */
public final class DeedsBoundsTest {
    private static final Check CHECK = new Check();

    public static void main(String[] args) throws ReflectiveOperationException {
        lentFromFirstToLastDay();
        keptUpToTheRoom();
        behindLentToTheRiver();
        awayADayLess();
        countedAtMost();
        pailByWhatIsKeptAndRoom();
        auntInsteadOfWhatWasLeft();
        hourByThePipe();
        hourAllAtOnce();
        hourThenSpills();
        firstSeed();
        drawsLeftOver();
        drawsWithoutHouses();
        drawsOfADay();
        drawnBehindLent();
        thirtyAreKept();
        eachIsOneDeed();
        sinceTextOrImage();
        seedStaysUndone();
        dayBounds();
        dayRefused();
        daysFull();
        pailBounds();
        pailRefused();
        auntBounds();
        auntRefused();
        hourBounds();
        hourRefused();
        driftBounds();
        driftRefused();
        driftFull();
        undoBounds();
        undoRefused();
        CHECK.end();
    }

    private static void counted(String when, LentDrains x, int spilled, int river) {
        CHECK.is(when + ", SPILLED", x.told(7), spilled);
        CHECK.is(when + ", in the RIVER", x.told(8), river);
    }

    // ---- section 2

    private static void lentFromFirstToLastDay() {
        CHECK.sentence("section 2", "DAYS are counted from 0; it is LENT on DAYS 0 to L less 1.");
        for (int lent : new int[] {1, 2, 30, 60}) {
            LentDrains x = Check.townOf("t" + lent + " 1;h999 1 9;");
            CHECK.is("the first DAY", x.told(4), 0);
            CHECK.is("LENT on it", x.told(5), 1);
            for (int i = 0; i < lent - 1; i++) {
                x.day(1);
            }
            CHECK.is("LENT on DAY L less 1", x.told(5), 1);
            CHECK.is("an HOUR on it", x.hour(1), Check.NOT);
            CHECK.is("that DAY's is KEPT", x.day(1), lent);
            CHECK.is("LENT on DAY L", x.told(5), 0);
            CHECK.is("that DAY's is not KEPT", x.day(1), lent);
            counted("behind it", x, 0, 1);
            CHECK.is("an HOUR then", x.hour(1), lent - 1);
        }
    }

    private static void keptUpToTheRoom() {
        CHECK.sentence("section 2", "what is above its ROOM then SPILLS (it KEEPS ROOM)");
        LentDrains x = Check.townOf("t9 1;h10 5 9;h9 5 9;h0 5 9;h0 0 9;h999 99 9;");
        x.day(2);
        CHECK.kept("as much as the ROOM, 1 more, no ROOM, nothing let go", x, 10, 9, 0, 0, 198);
        counted("then", x, 11, 0);
        x.day(1);
        CHECK.kept("the ROOM is full", x, 10, 9, 0, 0, 297);
        counted("then", x, 26, 0);
    }

    private static void behindLentToTheRiver() {
        CHECK.sentence("section 2", "behind LENT that is in the RIVER at once");
        LentDrains x = Check.townOf("t1 1;h10 5 9;h0 7 0;h9 3 1;");
        x.day(1);
        counted("in LENT", x, 7, 0);
        x.aunt(2, 1);
        CHECK.is("day(1)", x.day(1), 8);
        CHECK.kept("nothing more", x, 5, 0, 3);
        counted("all but of who is AWAY", x, 7, 12);
        x.day(1);
        counted("all", x, 7, 27);
    }

    private static void awayADayLess() {
        CHECK.sentence("section 2", "Who is AWAY is so a DAY less.");
        LentDrains x = Check.townOf("t3 1;h99 5 9;");
        x.aunt(0, 2);
        int[] away = {1, 0, 0, 0};
        int[] keeps = {0, 0, 5, 5};
        for (int i = 0; i < away.length; i++) {
            x.day(1);
            CHECK.is("AWAY yet", x.house(0, 4), away[i]);
            CHECK.is("the SET", x.told(9), away[i] > 0 ? 1 : 0);
            CHECK.is("it KEEPS", x.house(0, 3), keeps[i]);
        }
        x.aunt(0, 1);
        x.hour(3);
        CHECK.is("an HOUR is no DAY", x.house(0, 4), 1);
        x.day(1);
        CHECK.is("behind LENT, too", x.house(0, 4), 0);
    }

    /**
     * No run of calls comes near it: 9030 DAYS of 8 times 99 and 9 are 7233030 at most. So what was
     * counted is put into the object by hand.
     */
    private static void countedAtMost() throws ReflectiveOperationException {
        CHECK.sentence("section 2", "What SPILLED, what came to the RIVER is counted (9999999 at most).");
        LentDrains spills = Check.townOf("t9 1;h0 5 9;");
        putCounted(spills, "spilled", 9999990);
        int[] due = {9999995, 9999999, 9999999};
        for (int count : due) {
            spills.day(1);
            CHECK.is("SPILLED", spills.told(7), count);
        }
        LentDrains river = Check.townOf("t1 4;h9 5 9;");
        river.day(1);
        putCounted(river, "river", 9999990);
        for (int count : due) {
            river.day(1);
            CHECK.is("in the RIVER", river.told(8), count);
        }
        CHECK.is("undo(2)", river.undo(2), 2);
        CHECK.is("in the RIVER then", river.told(8), 9999995);
        river.hour(2);
        CHECK.is("in the RIVER by HOURS", river.told(8), 9999999);
        CHECK.is("all the same it is gone", river.told(6), 0);
        LentDrains most = Check.townOf("t1 1;h0 99 9;h0 99 9;h0 99 9;h0 99 9;h0 99 9;h0 99 9;h0 99 9;h0 99 9;");
        for (int i = 0; i < 300; i++) {
            most.day(30);
        }
        most.day(30);
        counted("the greatest by calls", most, 792, 9029 * 792);
    }

    private static void putCounted(LentDrains x, String name, int value) throws ReflectiveOperationException {
        Field now = LentDrains.class.getDeclaredField("now");
        now.setAccessible(true);
        Field count = now.get(x).getClass().getDeclaredField(name);
        count.setAccessible(true);
        count.setInt(now.get(x), value);
    }

    private static void pailByWhatIsKeptAndRoom() {
        CHECK.sentence("section 2", "A PAIL: x of what a HOUSE KEEPS to another one that has the ROOM.");
        LentDrains x = Check.townOf("t9 1;h10 8 9;h10 3 9;h0 0 0;");
        x.day(1);
        CHECK.is("1 above the ROOM", x.pail(0, 1, 8), Check.NOT);
        CHECK.is("as much as the ROOM", x.pail(0, 1, 7), 10);
        CHECK.kept("then", x, 1, 10, 0);
        CHECK.is("more than is KEPT", x.pail(0, 1, 2), Check.NOT);
        CHECK.is("the ROOM is full", x.pail(0, 1, 1), Check.NOT);
        CHECK.is("no ROOM at all", x.pail(1, 2, 1), Check.NOT);
        CHECK.is("1 above what is left", x.pail(1, 0, 10), Check.NOT);
        CHECK.is("as much as there is left", x.pail(1, 0, 9), 10);
        CHECK.is("more than is KEPT", x.pail(1, 0, 2), Check.NOT);
        CHECK.is("in all", x.told(6), 11);
        LentDrains all = Check.townOf("t9 1;h10 8 9;h10 0 9;");
        all.day(1);
        CHECK.is("all that is KEPT", all.pail(0, 1, 8), 8);
        CHECK.kept("then", all, 0, 8);
        CHECK.is("nothing is KEPT", all.pail(0, 1, 1), Check.NOT);
    }

    private static void auntInsteadOfWhatWasLeft() {
        CHECK.sentence("section 2", "AUNT: a HOUSE is AWAY for n DAYS from now on (instead of those that were left).");
        LentDrains x = Check.townOf("t60 1;h999 5 9;");
        CHECK.is("aunt(0, 60)", x.aunt(0, 60), 0);
        x.day(10);
        CHECK.is("aunt(0, 60) again", x.aunt(0, 60), 50);
        CHECK.is("not added", x.house(0, 4), 60);
        CHECK.is("aunt(0, 1): sooner", x.aunt(0, 1), 60);
        CHECK.is("aunt(0, 0): now", x.aunt(0, 0), 1);
        CHECK.is("day(1)", x.day(1), 5);
        x.aunt(0, 1);
        CHECK.is("day(1) AWAY", x.day(1), 5);
        CHECK.is("day(1) back", x.day(1), 10);
    }

    private static void hourByThePipe() {
        CHECK.sentence("section 2", "C of what it KEPT ahead of it, or as much as that was, goes to where it DRAINS");
        LentDrains x = Check.townOf("t1 5;h9 6 9;h9 5 9;h9 4 9;h9 0 9;");
        x.day(1);
        CHECK.is("hour(1)", x.hour(1), 1);
        CHECK.kept("more than C, C, less, nothing", x, 1, 0, 0, 0);
        counted("then", x, 0, 14);
        LentDrains wide = Check.townOf("t1 99;h99 99 9;h98 98 0;");
        wide.day(1);
        CHECK.is("hour(1)", wide.hour(1), 98);
        CHECK.kept("the widest pipe", wide, 98, 0);
    }

    private static void hourAllAtOnce() {
        CHECK.sentence("section 2", "from each HOUSE, all at once");
        LentDrains x = Check.townOf("t1 5;h9 0 9;h9 0 0;h9 0 1;h9 3 2;");
        x.day(1);
        int[][] due = {{0, 0, 3, 0}, {0, 3, 0, 0}, {3, 0, 0, 0}, {0, 0, 0, 0}};
        for (int[] row : due) {
            x.hour(1);
            CHECK.kept("a HOUSE an HOUR", x, row);
        }
        counted("then", x, 0, 3);
    }

    private static void hourThenSpills() {
        CHECK.sentence("section 2", "then what is above ROOM SPILLS");
        // House 0 is full and lets 4 go as 4 come in; house 1 is full and gets 4 and 4.
        LentDrains x = Check.townOf("t1 4;h8 8 9;h8 8 0;h9 9 1;h9 9 1;");
        x.day(1);
        CHECK.is("hour(1)", x.hour(1), 26);
        CHECK.kept("then", x, 8, 8, 5, 5);
        counted("then", x, 4, 4);
        LentDrains none = Check.townOf("t1 4;h0 0 9;h9 9 0;");
        none.day(1);
        none.hour(1);
        CHECK.kept("into no ROOM", none, 0, 5);
        counted("into no ROOM", none, 4, 0);
    }

    // ---- section 3: draws

    /** The draws told a second time, by numbers without a bound. */
    private static final class Slow {
        private BigInteger seed;

        Slow(int seed) {
            this.seed = BigInteger.valueOf(seed);
        }

        int draw(int n) {
            seed = seed.multiply(BigInteger.valueOf(1103515245)).add(BigInteger.valueOf(12345)).mod(BigInteger.TWO.pow(31));
            return seed.divide(BigInteger.valueOf(65536)).mod(BigInteger.valueOf(n)).intValue();
        }
    }

    private static void firstSeed() {
        CHECK.sentence("section 3", "BY DRAWS: THE SEED (0 at first");
        CHECK.is("seed(1) of a new object", new LentDrains().seed(1), 0);
        LentDrains x = Check.townOf(Check.FIVE);
        CHECK.is("seed(1) of a TOWN", x.seed(1), 0);
    }

    private static void drawsLeftOver() {
        CHECK.sentence("section 3", "it becomes it times 1103515245 and 12345, left over by 2 to the 31");
        for (int seed : new int[] {0, 1, 65535, 65536, 1073741824, 2147483646, 2147483647}) {
            LentDrains x = Check.townOf("t1 1;h0 0 9;");
            x.seed(seed);
            x.drift(1);
            Slow slow = new Slow(seed);
            slow.draw(1);
            if (slow.draw(4) == 0) {
                slow.draw(5);
            }
            slow.draw(1);
            slow.draw(10);
            CHECK.is("THE SEED behind a DAY from " + seed, x.seed(0), slow.seed.intValueExact());
        }
    }

    private static void drawsWithoutHouses() {
        CHECK.sentence("section 3", "ahead of each, if there are HOUSES, a DRAW of these");
        LentDrains x = Check.townOf("t6 5;");
        x.seed(11);
        CHECK.is("drift(30)", x.drift(30), 0);
        CHECK.is("DAYS", x.told(4), 30);
        CHECK.is("nothing was DRAWN", x.seed(0), 11);
    }

    /** From each of these seeds one DAY of three HOUSES, the second of which is AWAY for 3 DAYS ahead of it. */
    private static void drawsOfADay() {
        CHECK.sentence("section 3", "on 0 it is AWAY for a DRAW of 5 DAYS; then (in any case, if there are any) a DRAW of HOUSES, of 10");
        int homeByDraw = 0;
        int moreOfAway = 0;
        for (int seed = 0; seed < 400; seed++) {
            LentDrains x = Check.townOf("t9 5;h99 3 9;h99 4 0;h5 5 0;");
            x.aunt(1, 3);
            x.seed(seed * 5000011);
            x.drift(1);
            int[] away = {0, 3, 0};
            int[] lets = {3, 4, 5};
            Slow slow = new Slow(seed * 5000011);
            int who = slow.draw(3);
            if (slow.draw(4) == 0) {
                away[who] = slow.draw(5);
                homeByDraw += who == 1 && away[who] == 0 ? 1 : 0;
            }
            int guest = slow.draw(3);
            int more = slow.draw(10);
            moreOfAway += away[guest] > 0 && more > 0 ? 1 : 0;
            lets[guest] += more;
            for (int h = 0; h < 3; h++) {
                int most = h == 2 ? 5 : 99;
                CHECK.is("seed no. " + seed + ", KEPT by " + h, x.house(h, 3), away[h] > 0 ? 0 : Math.min(most, lets[h]));
                CHECK.is("seed no. " + seed + ", AWAY of " + h, x.house(h, 4), Math.max(0, away[h] - 1));
            }
            CHECK.is("seed no. " + seed + ", SPILLED", x.told(7), away[2] > 0 ? 0 : lets[2] - 5);
            CHECK.is("seed no. " + seed + ", THE SEED then", x.seed(0), slow.seed.intValueExact());
        }
        CHECK.is("a DRAW of 0 DAYS, who was AWAY", homeByDraw > 0 ? 1 : 0, 1);
        CHECK.is("more by who is AWAY", moreOfAway > 0 ? 1 : 0, 1);
    }

    private static void drawnBehindLent() {
        CHECK.sentence("section 3", "so much more it lets go this DAY, if it is not AWAY");
        for (int seed = 0; seed < 40; seed++) {
            LentDrains x = Check.townOf("t1 5;h0 3 9;");
            x.day(1);
            x.seed(seed * 50000017);
            x.drift(1);
            Slow slow = new Slow(seed * 50000017);
            slow.draw(1);
            int away = slow.draw(4) == 0 ? slow.draw(5) : 0;
            slow.draw(1);
            int more = slow.draw(10);
            counted("seed no. " + seed, x, 3, away > 0 ? 0 : 3 + more);
        }
    }

    // ---- section 3: undone

    private static void thirtyAreKept() {
        CHECK.sentence("section 3", "30 at most are kept");
        LentDrains x = Check.townOf("t60 5;h999 1 9;");
        for (int i = 1; i <= 29; i++) {
            x.day(1);
            CHECK.is("told(12)", x.told(12), i);
        }
        CHECK.is("undo(30) of 29", x.undo(30), Check.NOT);
        x.day(1);
        CHECK.is("told(12)", x.told(12), 30);
        CHECK.is("undo(30) of 30", x.undo(30), 0);
        x.day(30);
        x.day(1);
        CHECK.is("told(12) behind 31", x.told(12), 30);
        CHECK.is("undo(30)", x.undo(30), 1);
        CHECK.is("undo(1)", x.undo(1), Check.NOT);
        CHECK.is("told(6)", x.told(6), 1);
        x.day(30);
        x.day(30);
        x.day(29);
        for (int day = 89; day >= 60; day--) {
            CHECK.is("undo(1), one by one", x.undo(1), day);
        }
        CHECK.is("undo(1), one too many", x.undo(1), Check.NOT);
        CHECK.is("told(6)", x.told(6), 60);
    }

    private static void eachIsOneDeed() {
        CHECK.sentence("section 3", "UNDONE: the latest deeds (each DAY, pail(), aunt(), each HOUR, with what is DRAWN)");
        LentDrains x = Check.townOf(Check.FIVE);
        x.day(3);
        CHECK.is("3 DAYS", x.told(12), 3);
        x.pail(0, 1, 2);
        CHECK.is("and a PAIL", x.told(12), 4);
        x.aunt(0, 0);
        CHECK.is("and an AUNT of no DAYS", x.told(12), 5);
        x.drift(4);
        CHECK.is("and 4 DAYS BY DRAWS", x.told(12), 9);
        x.hour(5);
        CHECK.is("and 5 HOURS", x.told(12), 14);
        x.seed(3);
        x.see(0, true);
        x.write(0, 0);
        x.tear();
        x.feed('x');
        x.town();
        x.level(0, 9);
        x.breath(0);
        CHECK.is("and nothing else", x.told(12), 14);
        CHECK.is("undo(5): the HOURS", x.undo(5), 7);
        CHECK.is("undo(1): a DAY", x.undo(1), 6);
        CHECK.is("undo(3): DAYS", x.undo(3), 3);
        CHECK.is("undo(1): the AUNT", x.undo(1), 3);
        CHECK.kept("the PAIL", x, 7, 14, 3, 18, 6);
        CHECK.is("undo(1): the PAIL", x.undo(1), 3);
        CHECK.kept("no PAIL", x, 9, 12, 3, 18, 6);
    }

    private static void sinceTextOrImage() {
        CHECK.sentence("section 3", "since the text or IMAGE");
        LentDrains x = Check.townOf(Check.FIVE);
        x.day(3);
        x.keep(0);
        CHECK.is("undo(1) behind keep()", x.undo(1), Check.NOT);
        x.day(2);
        CHECK.is("undo(3)", x.undo(3), Check.NOT);
        CHECK.is("undo(2)", x.undo(2), 3);
        x.day(2);
        x.goBack(0);
        CHECK.is("undo(1) behind goBack()", x.undo(1), Check.NOT);
        x.day(2);
        Check.feedAll(x, Check.FIVE);
        x.town();
        CHECK.is("undo(1) behind town()", x.undo(1), Check.NOT);
    }

    private static void seedStaysUndone() {
        CHECK.sentence("section 3", "all of section 2 is as ahead of them; THE SEED stays");
        for (int seed = 0; seed < 40; seed++) {
            LentDrains x = Check.townOf(Check.FIVE);
            x.day(6);
            x.aunt(1, 4);
            x.hour(1);
            x.seed(seed * 50000017);
            String before = Check.picture(x);
            x.drift(3);
            x.hour(1);
            x.pail(0, 1, 1);
            int drawn = x.seed(seed);
            x.seed(drawn);
            x.undo(x.told(12) - 8);
            CHECK.unchanged("undo", x, before);
            CHECK.is("THE SEED", x.seed(0), drawn);
        }
    }

    // ---- promises 7 to 12

    private static void dayBounds() {
        CHECK.sentence("promise 7", "n DAYS (1 .. 30): what is KEPT in all.");
        LentDrains x = Check.townOf("t60 1;h999 9 9;h999 1 0;");
        CHECK.is("day(0)", x.day(0), Check.OUTSIDE);
        CHECK.is("day(-1)", x.day(-1), Check.OUTSIDE);
        CHECK.is("day(1)", x.day(1), 10);
        CHECK.is("day(30)", x.day(30), 310);
        CHECK.is("day(31)", x.day(31), Check.OUTSIDE);
        CHECK.is("day(MIN)", x.day(Integer.MIN_VALUE), Check.OUTSIDE);
        CHECK.is("day(MAX)", x.day(Integer.MAX_VALUE), Check.OUTSIDE);
        CHECK.is("DAYS", x.told(4), 31);
        CHECK.is("day(30), 29 of them in LENT", x.day(30), 600);
        CHECK.is("in the RIVER", x.told(8), 10);
    }

    private static void dayRefused() {
        CHECK.sentence("promise 7", "OUTSIDE, NOT: no TOWN");
        CHECK.is("day(1)", new LentDrains().day(1), Check.NOT);
        CHECK.is("day(30)", new LentDrains().day(30), Check.NOT);
        CHECK.is("day(31)", new LentDrains().day(31), Check.OUTSIDE);
        CHECK.is("day(1) of a TOWN without HOUSES", Check.townOf("t1 1;").day(1), 0);
        CHECK.is("day(1) of a text with a FAULT", Check.townOf("t1 1;x").day(1), Check.NOT);
    }

    private static LentDrains lateDay(int days) {
        LentDrains x = Check.townOf("t1 1;h9 7 9;");
        for (int i = 0; i < days / 30; i++) {
            x.day(30);
        }
        x.keep(0);
        if (days % 30 > 0) {
            x.day(days % 30);
        }
        return x;
    }

    private static void daysFull() {
        CHECK.sentence("promise 7", "FULL: DAYS are above 9000.");
        LentDrains before = lateDay(8999);
        CHECK.is("day(1) on DAY 8999", before.day(1), 7);
        CHECK.is("day(1) on DAY 9000", before.day(1), 7);
        CHECK.is("day(1) on DAY 9001", before.day(1), Check.FULL);
        CHECK.is("DAYS", before.told(4), 9001);
        CHECK.is("an HOUR goes on", before.hour(1), 6);
        CHECK.is("undo(2)", before.undo(2), 9000);
        CHECK.is("day(30) on DAY 9000", before.day(30), 7);
        CHECK.is("DAYS", before.told(4), 9030);
        CHECK.is("day(30) on DAY 9030", before.day(30), Check.FULL);
        CHECK.is("goBack(0)", before.goBack(0), 1);
        CHECK.is("day(1) then", before.day(1), 7);
    }

    private static void pailBounds() {
        CHECK.sentence("promise 8", "A PAIL (x 1 .. 999): what the other one KEEPS then.");
        LentDrains x = Check.townOf("t60 1;h999 99 9;h999 0 9;");
        x.day(30);
        CHECK.is("pail(0, 1, 0)", x.pail(0, 1, 0), Check.OUTSIDE);
        CHECK.is("pail(0, 1, -1)", x.pail(0, 1, -1), Check.OUTSIDE);
        CHECK.is("pail(0, 1, 1000)", x.pail(0, 1, 1000), Check.OUTSIDE);
        CHECK.is("pail(0, 1, MIN)", x.pail(0, 1, Integer.MIN_VALUE), Check.OUTSIDE);
        CHECK.is("pail(0, 1, MAX)", x.pail(0, 1, Integer.MAX_VALUE), Check.OUTSIDE);
        CHECK.is("pail(0, 1, 999)", x.pail(0, 1, 999), 999);
        CHECK.kept("all of it", x, 0, 999);
        CHECK.is("pail(1, 0, 1)", x.pail(1, 0, 1), 1);
        CHECK.is("pail(1, 0, 1)", x.pail(1, 0, 1), 2);
    }

    private static void pailRefused() {
        CHECK.sentence("promise 8", "UNKNOWN, OUTSIDE, NOT: not so much is KEPT, there is no ROOM.");
        LentDrains x = Check.townOf("t9 1;h9 4 9;h5 3 9;");
        x.day(1);
        CHECK.is("pail(0, 2, 1)", x.pail(0, 2, 1), Check.UNKNOWN);
        CHECK.is("pail(-1, 1, 1)", x.pail(-1, 1, 1), Check.UNKNOWN);
        CHECK.is("pail(1, 1, 1)", x.pail(1, 1, 1), Check.UNKNOWN);
        CHECK.is("pail(0, 1, 0)", x.pail(0, 1, 0), Check.OUTSIDE);
        CHECK.is("pail(1, 0, 4): not so much", x.pail(1, 0, 4), Check.NOT);
        CHECK.is("pail(0, 1, 3): no ROOM", x.pail(0, 1, 3), Check.NOT);
        CHECK.is("no deed", x.told(12), 1);
        CHECK.is("pail(0, 1, 2)", x.pail(0, 1, 2), 5);
        CHECK.is("pail(0, 1, 1) without a TOWN", new LentDrains().pail(0, 1, 1), Check.UNKNOWN);
    }

    private static void auntBounds() {
        CHECK.sentence("promise 9", "AUNT (n 0 .. 60): DAYS that it was to be AWAY yet.");
        LentDrains x = Check.townOf(Check.FIVE);
        CHECK.is("aunt(4, 60)", x.aunt(4, 60), 0);
        CHECK.is("aunt(4, 0)", x.aunt(4, 0), 60);
        CHECK.is("aunt(4, 0)", x.aunt(4, 0), 0);
        CHECK.is("AWAY", x.told(9), 0);
        CHECK.is("aunt(4, 1)", x.aunt(4, 1), 0);
        CHECK.is("AWAY", x.told(9), 16);
    }

    private static void auntRefused() {
        CHECK.sentence("promise 9", "UNKNOWN, OUTSIDE.");
        LentDrains x = Check.townOf(Check.FIVE);
        for (int n : new int[] {-1, 61, Integer.MIN_VALUE, Integer.MAX_VALUE}) {
            CHECK.is("aunt(4, " + n + ")", x.aunt(4, n), Check.OUTSIDE);
            CHECK.is("aunt(5, " + n + ")", x.aunt(5, n), Check.UNKNOWN);
        }
        CHECK.is("aunt(-1, 0)", x.aunt(-1, 0), Check.UNKNOWN);
        CHECK.is("aunt(0, 0) without a TOWN", new LentDrains().aunt(0, 0), Check.UNKNOWN);
        CHECK.is("no deed", x.told(12), 0);
    }

    private static void hourBounds() {
        CHECK.sentence("promise 10", "n HOURS (1 .. 30): what is KEPT in all.");
        LentDrains x = Check.townOf("t1 1;h99 50 9;h99 7 9;");
        x.day(1);
        CHECK.is("hour(0)", x.hour(0), Check.OUTSIDE);
        CHECK.is("hour(-1)", x.hour(-1), Check.OUTSIDE);
        CHECK.is("hour(31)", x.hour(31), Check.OUTSIDE);
        CHECK.is("hour(MIN)", x.hour(Integer.MIN_VALUE), Check.OUTSIDE);
        CHECK.is("hour(MAX)", x.hour(Integer.MAX_VALUE), Check.OUTSIDE);
        CHECK.is("hour(1)", x.hour(1), 55);
        CHECK.is("hour(30)", x.hour(30), 19);
        CHECK.is("hour(30)", x.hour(30), 0);
        CHECK.is("hour(30), nothing KEPT", x.hour(30), 0);
        CHECK.is("in the RIVER", x.told(8), 57);
        CHECK.is("DAYS", x.told(4), 1);
    }

    private static void hourRefused() {
        CHECK.sentence("promise 10", "OUTSIDE, NOT: no TOWN, it is LENT.");
        CHECK.is("hour(1) without a TOWN", new LentDrains().hour(1), Check.NOT);
        LentDrains x = Check.townOf("t2 1;h9 2 9;");
        CHECK.is("hour(1) on DAY 0", x.hour(1), Check.NOT);
        x.day(1);
        CHECK.is("hour(30) on DAY 1", x.hour(30), Check.NOT);
        x.day(1);
        CHECK.is("hour(1) on DAY 2", x.hour(1), 3);
        x.undo(2);
        CHECK.is("hour(1) on DAY 1 again", x.hour(1), Check.NOT);
        LentDrains empty = Check.townOf("t1 1;");
        CHECK.is("hour(1) in LENT without HOUSES", empty.hour(1), Check.NOT);
        empty.day(1);
        CHECK.is("hour(1) without HOUSES", empty.hour(1), 0);
    }

    private static void driftBounds() {
        CHECK.sentence("promise 11", "n DAYS BY DRAWS (1 .. 30): what is KEPT in all.");
        LentDrains x = Check.townOf(Check.FIVE);
        for (int n : new int[] {0, -1, 31, Integer.MIN_VALUE, Integer.MAX_VALUE}) {
            CHECK.is("drift(" + n + ")", x.drift(n), Check.OUTSIDE);
        }
        CHECK.is("THE SEED", x.seed(0), 0);
        CHECK.is("drift(1)", x.drift(1), x.told(6));
        CHECK.is("DAYS", x.told(4), 1);
        CHECK.is("drift(30)", x.drift(30), x.told(6));
        CHECK.is("DAYS", x.told(4), 31);
        LentDrains byOne = Check.townOf(Check.FIVE);
        for (int i = 0; i < 31; i++) {
            byOne.drift(1);
        }
        CHECK.unchanged("31 DAYS one by one", byOne, Check.picture(x));
        CHECK.is("THE SEED", byOne.seed(0), x.seed(0));
    }

    private static void driftRefused() {
        CHECK.sentence("promise 11", "OUTSIDE, NOT: no TOWN");
        LentDrains x = new LentDrains();
        CHECK.is("drift(1)", x.drift(1), Check.NOT);
        CHECK.is("drift(31)", x.drift(31), Check.OUTSIDE);
        CHECK.is("THE SEED", x.seed(0), 0);
    }

    private static void driftFull() {
        CHECK.sentence("promise 11", "FULL: DAYS are above 9000.");
        LentDrains x = lateDay(9000);
        CHECK.is("drift(1) on DAY 9000", x.drift(1), 7);
        int seed = x.seed(4);
        CHECK.is("drift(1) on DAY 9001", x.drift(1), Check.FULL);
        CHECK.is("THE SEED", x.seed(seed), 4);
        CHECK.is("undo(1)", x.undo(1), 9000);
        CHECK.is("drift(30) on DAY 9000", x.drift(30), 7);
        CHECK.is("DAYS", x.told(4), 9030);
    }

    private static void undoBounds() {
        CHECK.sentence("promise 12", "The n latest (1 .. 30) are undone: DAYS.");
        LentDrains x = Check.townOf(Check.FIVE);
        x.day(30);
        CHECK.is("undo(1)", x.undo(1), 29);
        CHECK.is("undo(29)", x.undo(29), 0);
        x.day(30);
        CHECK.is("undo(30)", x.undo(30), 0);
        CHECK.unchanged("undo(30)", x, Check.picture(Check.townOf(Check.FIVE)));
    }

    private static void undoRefused() {
        CHECK.sentence("promise 12", "OUTSIDE, NOT: not so many.");
        LentDrains x = Check.townOf(Check.FIVE);
        CHECK.is("undo(1) of none", x.undo(1), Check.NOT);
        x.day(5);
        for (int n : new int[] {0, -1, 31, Integer.MIN_VALUE, Integer.MAX_VALUE}) {
            CHECK.is("undo(" + n + ")", x.undo(n), Check.OUTSIDE);
        }
        CHECK.is("undo(6)", x.undo(6), Check.NOT);
        CHECK.is("undo(30)", x.undo(30), Check.NOT);
        CHECK.is("DAYS", x.told(4), 5);
        CHECK.is("undo(5)", x.undo(5), 0);
        CHECK.is("undo(1) without a TOWN", new LentDrains().undo(1), Check.NOT);
    }
}
