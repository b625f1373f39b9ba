/** Promises 7 to 12: day, pail, aunt, hour, drift, undo. */
public final class DeedsTest {
    private static final Check CHECK = new Check();

    public static void main(String[] args) {
        days();
        daysAreFull();
        pails();
        aunts();
        hours();
        drifting();
        driftingWithoutHouses();
        undoing();
        undoKeepsThirty();
        CHECK.end();
    }

    private static void days() {
        LentDrains x = Check.townOf("t3 4;h10 4 9;h0 2 0;h5 0 9;");
        String before = Check.picture(x);
        CHECK.is("day(0)", x.day(0), Check.OUTSIDE);
        CHECK.is("day(31)", x.day(31), Check.OUTSIDE);
        CHECK.unchanged("a refused day", x, before);
        CHECK.is("day(1)", x.day(1), 4);
        CHECK.is("spilled", x.told(7), 2);
        CHECK.is("day(2)", x.day(2), 10);
        CHECK.kept("LENT is over", x, 10, 0, 0);
        CHECK.is("spilled", x.told(7), 8);
        CHECK.is("the river in LENT", x.told(8), 0);
        CHECK.is("LENT", x.told(5), 0);
        CHECK.is("day(30)", x.day(30), 10);
        CHECK.is("the river", x.told(8), 180);
        CHECK.is("spilled behind LENT", x.told(7), 8);
        CHECK.is("days", x.told(4), 33);
        LentDrains none = new LentDrains();
        CHECK.is("day(0) without a town", none.day(0), Check.OUTSIDE);
        CHECK.is("day(1) without a town", none.day(1), Check.NOT);
        LentDrains empty = Check.townOf("t2 1;");
        CHECK.is("day(3) without houses", empty.day(3), 0);
        CHECK.is("its days", empty.told(4), 3);
    }

    private static void daysAreFull() {
        LentDrains x = Check.townOf("t1 1;h999 99 9;");
        for (int i = 0; i < 300; i++) {
            x.day(30);
        }
        CHECK.is("days", x.told(4), 9000);
        CHECK.is("spills behind 9000 days", x.spills(60), 0);
        CHECK.is("day(1) at 9000", x.day(1), 99);
        CHECK.is("days", x.told(4), 9001);
        CHECK.is("day(1) above 9000", x.day(1), Check.FULL);
        CHECK.is("drift(1) above 9000", x.drift(1), Check.FULL);
        CHECK.is("day(31) above 9000", x.day(31), Check.OUTSIDE);
        CHECK.is("level above 9000", x.level(0, 60), 99);
        CHECK.is("the river", x.told(8), 9000 * 99);
        CHECK.is("undo", x.undo(1), 9000);
        CHECK.is("day(30) at 9000", x.day(30), 99);
        CHECK.is("days", x.told(4), 9030);
    }

    private static void pails() {
        LentDrains x = Check.townOf(Check.FIVE);
        x.day(3);
        String before = Check.picture(x);
        CHECK.is("pail(0, 0, 1)", x.pail(0, 0, 1), Check.UNKNOWN);
        CHECK.is("pail(5, 0, 0)", x.pail(5, 0, 0), Check.UNKNOWN);
        CHECK.is("pail(0, -1, 1)", x.pail(0, -1, 1), Check.UNKNOWN);
        CHECK.is("pail(0, 1, 0)", x.pail(0, 1, 0), Check.OUTSIDE);
        CHECK.is("pail(0, 1, 1000)", x.pail(0, 1, 1000), Check.OUTSIDE);
        CHECK.is("pail(0, 1, 10): not so much", x.pail(0, 1, 10), Check.NOT);
        CHECK.is("pail(0, 1, 9): no room", x.pail(0, 1, 9), Check.NOT);
        CHECK.unchanged("a refused pail", x, before);
        CHECK.is("pail(0, 1, 8)", x.pail(0, 1, 8), 20);
        CHECK.is("pail(3, 4, 9)", x.pail(3, 4, 9), 15);
        CHECK.kept("two pails", x, 1, 20, 3, 9, 15);
        CHECK.is("in all", x.told(6), 48);
        CHECK.is("to be undone", x.told(12), 5);
        x.day(10);
        CHECK.is("behind LENT, too", x.pail(0, 2, 1), 7);
    }

    private static void aunts() {
        LentDrains x = Check.townOf(Check.FIVE);
        CHECK.is("aunt(5, 61)", x.aunt(5, 61), Check.UNKNOWN);
        CHECK.is("aunt(0, 61)", x.aunt(0, 61), Check.OUTSIDE);
        CHECK.is("aunt(0, -1)", x.aunt(0, -1), Check.OUTSIDE);
        CHECK.is("nothing to undo", x.told(12), 0);
        CHECK.is("aunt(3, 60)", x.aunt(3, 60), 0);
        CHECK.is("aunt(3, 2)", x.aunt(3, 2), 60);
        CHECK.is("aunt(1, 1)", x.aunt(1, 1), 0);
        CHECK.is("away", x.told(9), 10);
        x.day(1);
        CHECK.kept("one day", x, 3, 0, 1, 0, 2);
        CHECK.is("away", x.told(9), 8);
        CHECK.is("away yet", x.house(3, 4), 1);
        x.day(2);
        CHECK.kept("three days", x, 9, 8, 3, 6, 6);
        CHECK.is("away", x.told(9), 0);
        CHECK.is("aunt(3, 5)", x.aunt(3, 5), 0);
        CHECK.is("aunt(3, 0)", x.aunt(3, 0), 5);
        CHECK.is("away", x.told(9), 0);
        CHECK.is("to be undone", x.told(12), 8);
        x.aunt(0, 1);
        x.aunt(4, 1);
        CHECK.is("away", x.told(9), 17);
    }

    private static void hours() {
        LentDrains x = Check.townOf("t2 4;h6 3 9;h8 3 0;h9 3 1;h1 0 0;");
        CHECK.is("hour(1) in LENT", x.hour(1), Check.NOT);
        CHECK.is("hour(0) in LENT", x.hour(0), Check.OUTSIDE);
        CHECK.is("hour(31)", x.hour(31), Check.OUTSIDE);
        x.day(2);
        CHECK.kept("LENT is over", x, 6, 6, 6, 0);
        x.pail(2, 3, 1);
        CHECK.is("hour(1)", x.hour(1), 13);
        // 4 to the river, 4 and 1 into house 0, 4 into house 1: all at once; 1 spills from house 0.
        CHECK.kept("one hour", x, 6, 6, 1, 0);
        CHECK.is("spilled", x.told(7), 1);
        CHECK.is("the river", x.told(8), 4);
        CHECK.is("days stay", x.told(4), 2);
        CHECK.is("hour(30)", x.hour(30), 0);
        CHECK.is("the river", x.told(8), 17);
        LentDrains empty = Check.townOf("t1 1;");
        empty.day(1);
        CHECK.is("hour(2) without houses", empty.hour(2), 0);
        CHECK.is("these can be undone", empty.told(12), 3);
        CHECK.is("hour without a town", new LentDrains().hour(1), Check.NOT);
    }

    private static void drifting() {
        LentDrains x = Check.townOf("t6 5;h40 3 9;h20 4 0;h10 1 0;");
        CHECK.is("drift(0)", x.drift(0), Check.OUTSIDE);
        CHECK.is("drift(31)", x.drift(31), Check.OUTSIDE);
        CHECK.is("drift without a town", new LentDrains().drift(1), Check.NOT);
        CHECK.is("drift(0) without a town", new LentDrains().drift(0), Check.OUTSIDE);
        // By hand, from seed 0: 12345 (draw of 3: 0), 1406932606 (of 4: 0: away), 654583775 (of 5: 3),
        // 1449466924 (of 3: 1), 229283573 (of 10: 8).
        CHECK.is("drift(1)", x.drift(1), 13);
        CHECK.kept("one day", x, 0, 12, 1);
        CHECK.is("away yet", x.house(0, 4), 2);
        CHECK.is("the seed", x.seed(229283573), 229283573);
        CHECK.is("to be undone", x.told(12), 1);
    }

    private static void driftingWithoutHouses() {
        LentDrains x = Check.townOf("t6 5;");
        CHECK.is("drift(4)", x.drift(4), 0);
        CHECK.is("days", x.told(4), 4);
        CHECK.is("nothing was drawn", x.seed(1), 0);
    }

    private static void undoing() {
        LentDrains x = Check.townOf(Check.FIVE);
        CHECK.is("undo(0)", x.undo(0), Check.OUTSIDE);
        CHECK.is("undo(31)", x.undo(31), Check.OUTSIDE);
        CHECK.is("undo(1)", x.undo(1), Check.NOT);
        x.day(3);
        String threeDays = Check.picture(x);
        x.pail(3, 0, 7);
        x.aunt(1, 4);
        x.drift(2);
        int drawn = x.seed(99);
        CHECK.is("undo(8)", x.undo(8), Check.NOT);
        CHECK.is("undo(4)", x.undo(4), 3);
        CHECK.unchanged("undo(4)", x, threeDays);
        CHECK.is("the seed stays", x.seed(drawn), 99);
        x.day(5);
        x.hour(3);
        CHECK.is("undo(3)", x.undo(3), 8);
        CHECK.is("undo(1): a day", x.undo(1), 7);
        CHECK.is("undo(7)", x.undo(7), 0);
        CHECK.unchanged("undo to the beginning", x, Check.picture(Check.townOf(Check.FIVE)));
        CHECK.is("undo behind it", x.undo(1), Check.NOT);
    }

    private static void undoKeepsThirty() {
        LentDrains x = Check.townOf(Check.FIVE);
        x.day(30);
        CHECK.is("to be undone", x.told(12), 30);
        x.day(25);
        CHECK.is("to be undone", x.told(12), 30);
        CHECK.is("undo(30)", x.undo(30), 25);
        CHECK.is("to be undone", x.told(12), 0);
        CHECK.is("undo(1)", x.undo(1), Check.NOT);
        x.day(2);
        x.see(0, true);
        x.write(0, 40);
        CHECK.is("undo(2)", x.undo(2), 25);
        CHECK.is("what was seen stays", x.told(10), 1);
        CHECK.is("the book stays", x.told(11), 1);
    }
}
