/** Promises 13 to 20: level, spills, fewest, held, breath, pulled, best, dry. */
public final class TriedTest {
    private static final Check CHECK = new Check();

    public static void main(String[] args) {
        levels();
        spilling();
        fewestAway();
        fewestByStreams();
        holding();
        breathing();
        breathOfManyHours();
        pulling();
        wrongOrders();
        bestOrders();
        dryDays();
        CHECK.end();
    }

    private static void levels() {
        LentDrains x = Check.townOf(Check.FIVE);
        x.day(2);
        x.aunt(0, 2);
        String before = Check.picture(x);
        CHECK.is("level(0, 0)", x.level(0, 0), 6);
        CHECK.is("level(0, 2)", x.level(0, 2), 6);
        CHECK.is("level(0, 3)", x.level(0, 3), 9);
        CHECK.is("level(3, 3)", x.level(3, 3), 30);
        CHECK.is("level(3, 60)", x.level(3, 60), 30);
        CHECK.is("level(2, 60)", x.level(2, 60), 6);
        CHECK.is("level(5, 61)", x.level(5, 61), Check.UNKNOWN);
        CHECK.is("level(-1, 0)", x.level(-1, 0), Check.UNKNOWN);
        CHECK.is("level(0, 61)", x.level(0, 61), Check.OUTSIDE);
        CHECK.is("level(0, -1)", x.level(0, -1), Check.OUTSIDE);
        CHECK.unchanged("level", x, before);
    }

    private static void spilling() {
        LentDrains x = Check.townOf("t6 5;h10 4 9;h3 1 0;");
        x.day(3);
        CHECK.is("spilled", x.told(7), 2);
        CHECK.is("spills(0)", x.spills(0), 0);
        CHECK.is("spills(1)", x.spills(1), 5);
        CHECK.is("spills(3)", x.spills(3), 15);
        CHECK.is("spills(60)", x.spills(60), 15);
        x.aunt(0, 2);
        CHECK.is("spills(3) with one away", x.spills(3), 7);
        CHECK.is("spills(61)", x.spills(61), Check.OUTSIDE);
        CHECK.is("spills(-1)", x.spills(-1), Check.OUTSIDE);
        CHECK.is("spilled is as it was", x.told(7), 2);
    }

    private static void fewestAway() {
        // One stream with room for 20; till LENT is over 10, 10 and 20 are let go.
        LentDrains x = Check.townOf("t10 5;h10 1 9;h5 1 0;h5 2 1;");
        CHECK.is("fewest", x.fewest(), 4);
        x.aunt(2, 60);
        CHECK.is("fewest, one away now", x.fewest(), 4);
        x.undo(1);
        x.day(5);
        // 5, 5, 5 kept, 5 spilled: 5 more may come of 5, 5 and 10; of 3, 5 and 6 the least.
        CHECK.is("fewest behind 5 days", x.fewest(), 5);
        x.day(4);
        CHECK.is("fewest on the last day", x.fewest(), 5);
        x.day(1);
        CHECK.is("fewest behind LENT", x.fewest(), 0);
        LentDrains exact = Check.townOf("t10 5;h10 1 9;h10 1 0;");
        CHECK.is("as much as the room", exact.fewest(), 0);
        CHECK.is("fewest without houses", Check.townOf("t10 5;").fewest(), 0);
    }

    private static void fewestByStreams() {
        // House 1 has room enough for all, but is of another stream.
        LentDrains x = Check.townOf("t10 5;h5 1 9;h999 0 9;h3 1 0;h0 1 1;");
        CHECK.is("fewest", x.fewest(), 5);
        // Two away where one of the two greater ones would not do; of like ones the least.
        LentDrains y = Check.townOf("t10 5;h25 2 9;h0 1 0;h0 2 0;h0 1 1;");
        CHECK.is("fewest", y.fewest(), 5);
        LentDrains z = Check.townOf("t10 5;h45 2 9;h0 1 0;h0 2 0;h0 1 1;");
        CHECK.is("fewest", z.fewest(), 1);
    }

    private static void holding() {
        // 12 too much in house 0; houses 1 and 2 have room for 5 each, house 3 is not joined to it.
        LentDrains x = Check.townOf("t2 5;h0 6 9;h9 2 0;h9 2 0;h9 0 1;");
        CHECK.is("held above", x.held(), 10);
        LentDrains less = Check.townOf("t2 5;h0 3 9;h9 2 0;h9 2 0;h9 0 1;");
        CHECK.is("no more than is too much", less.held(), 6);
        // The other way: two houses' 4 too much, 6 of room left below.
        LentDrains y = Check.townOf("t4 5;h10 1 9;h0 1 0;h0 1 0;");
        CHECK.is("held below", y.held(), 6);
        // A line: 1 can be held by 0 or 2, 3 by 2 alone.
        LentDrains z = Check.townOf("t1 5;h4 0 9;h0 4 0;h5 0 1;h0 5 2;");
        CHECK.is("held in a line", z.held(), 9);
        z.aunt(1, 60);
        CHECK.is("held, one away now", z.held(), 9);
        z.day(1);
        CHECK.is("held behind LENT", z.held(), 0);
        LentDrains apart = Check.townOf("t1 5;h0 9 9;h99 0 9;");
        CHECK.is("no pipe joins them", apart.held(), 0);
        CHECK.is("held without houses", Check.townOf("t10 5;").held(), 0);
        LentDrains kept = Check.townOf("t4 5;h10 3 9;h20 0 0;");
        CHECK.is("held of 12", kept.held(), 2);
        kept.day(2);
        kept.pail(0, 1, 6);
        CHECK.is("held of 6", kept.held(), 0);
    }

    private static void breathing() {
        LentDrains x = Check.townOf("t9 4;h6 3 9;h8 3 0;h9 3 1;h2 1 0;");
        CHECK.breath("nothing kept", x, 0, 0, 0, 0);
        x.day(2);
        // 6, 6, 6, 2: hour 1: 8 in house 0, 2 spill; then 6 6 2 0; 6 4 0 0; 6 0 0 0; 2; 0.
        String before = Check.picture(x);
        CHECK.breath("in LENT", x, 5, 2, 6, 0);
        CHECK.unchanged("breath", x, before);
        x.aunt(0, 3);
        CHECK.breath("one away", x, 5, 2, 6, 0);
        x.undo(1);
        x.day(1);
        // 6, 8, 9, 2: the greatest is in house 2 now.
        CHECK.is("the greatest", x.breath(2), 9);
        CHECK.is("whose", x.breath(3), 2);
        CHECK.is("breath(-1)", x.breath(-1), Check.OUTSIDE);
        CHECK.is("breath(4)", x.breath(4), Check.OUTSIDE);
        CHECK.breath("without houses", Check.townOf("t1 1;"), -1, -1, -1, -1);
        CHECK.breath("without a town", new LentDrains(), -1, -1, -1, -1);
        CHECK.is("breath(4) without houses", new LentDrains().breath(4), Check.OUTSIDE);
        LentDrains late = Check.townOf("t3 5;h7 0 9;h7 7 0;h5 0 1;");
        late.day(1);
        late.pail(1, 2, 2);
        // 0, 5, 2: later 5 stands in house 0, too, but house 1 had it in an earlier hour.
        CHECK.breath("of like ones the first hour", late, 3, 0, 5, 1);
    }

    private static void breathOfManyHours() {
        LentDrains x = Check.townOf("t60 1;h999 99 9;");
        x.day(11);
        CHECK.breath("999 hours", x, 999, 0, 999, 0);
        LentDrains y = Check.townOf("t60 1;h999 99 9;h999 1 0;");
        y.day(11);
        // 999 and 11: as long as house 1 drains, house 0 stays as it is.
        CHECK.breath("1010 hours", y, -1, 0, 999, 0);
        LentDrains z = Check.townOf("t60 1;h0 0 9;h999 99 0;");
        z.day(30);
        CHECK.breath("all of it spills", z, 999, 999, 999, 1);
        LentDrains two = Check.townOf("t60 1;h0 0 9;h999 99 0;h999 99 1;");
        two.day(30);
        CHECK.breath("what 999 hours spill", two, -1, 999, 999, 1);
    }

    private static void pulling() {
        LentDrains x = Check.townOf("t9 4;h90 3 9;h8 2 0;h9 1 1;h20 5 0;");
        x.day(2);
        String before = Check.picture(x);
        CHECK.is("pulled(1234)", x.pulled(1234), 10);
        CHECK.is("pulled(4321)", x.pulled(4321), 22);
        CHECK.is("pulled(2314)", x.pulled(2314), 12);
        CHECK.is("pulled(3241)", x.pulled(3241), 22);
        CHECK.is("pulled(4132)", x.pulled(4132), 16);
        CHECK.is("pulled(1342)", x.pulled(1342), 10);
        CHECK.unchanged("pulled", x, before);
        LentDrains one = Check.townOf("t9 4;h90 3 9;");
        CHECK.is("pulled(1)", one.pulled(1), 0);
        // Above ROOM, too: 12 come to a house with room for 5.
        LentDrains small = Check.townOf("t9 4;h5 1 9;h12 4 0;");
        small.day(3);
        CHECK.is("pulled(21)", small.pulled(21), 15);
        CHECK.is("pulled(12)", small.pulled(12), 12);
        CHECK.is("spilled", small.told(7), 0);
    }

    private static void wrongOrders() {
        LentDrains x = Check.townOf("t9 4;h90 3 9;h8 2 0;h9 1 1;h20 5 0;");
        int[] orders = {0, -1234, 123, 12345, 1233, 1235, 1230, 11234, 4, Integer.MAX_VALUE, Integer.MIN_VALUE};
        for (int order : orders) {
            CHECK.is("pulled(" + order + ")", x.pulled(order), Check.OUTSIDE);
        }
        CHECK.is("pulled(0) without houses", Check.townOf("t1 1;").pulled(0), Check.OUTSIDE);
        CHECK.is("pulled(1) without a town", new LentDrains().pulled(1), Check.OUTSIDE);
        LentDrains six = Check.townOf("t1 1;h9 1 9;h9 1 0;h9 1 1;h9 1 2;h9 1 3;h9 1 4;");
        six.day(1);
        CHECK.is("pulled(654321)", six.pulled(654321), 6);
        LentDrains seven = Check.townOf("t1 1;h9 1 9;h9 1 0;h9 1 1;h9 1 2;h9 1 3;h9 1 4;h9 1 5;");
        CHECK.is("pulled(1234567)", seven.pulled(1234567), Check.OUTSIDE);
        CHECK.is("pulled(123456)", seven.pulled(123456), Check.OUTSIDE);
        CHECK.is("best(0) of seven", seven.best(0), Check.NONE);
        CHECK.is("best(1) of seven", seven.best(1), Check.NONE);
        CHECK.is("best(2) of seven", seven.best(2), Check.OUTSIDE);
        CHECK.is("best(0) of six", six.best(0), 123456);
        CHECK.is("best(1) of six", six.best(1), 1);
    }

    private static void bestOrders() {
        LentDrains x = Check.townOf("t9 4;h90 3 9;h8 2 0;h9 1 1;h20 5 0;");
        CHECK.is("best(0)", x.best(0), 1234);
        CHECK.is("best(1)", x.best(1), 0);
        x.day(2);
        CHECK.is("best(0)", x.best(0), 1234);
        CHECK.is("best(1)", x.best(1), 10);
        CHECK.is("best(-1)", x.best(-1), Check.OUTSIDE);
        CHECK.is("best(2)", x.best(2), Check.OUTSIDE);
        CHECK.is("best(0) without houses", Check.townOf("t1 1;").best(0), Check.NONE);
        CHECK.is("best(1) without a town", new LentDrains().best(1), Check.NONE);
        CHECK.is("best(2) without a town", new LentDrains().best(2), Check.OUTSIDE);
    }

    private static void dryDays() {
        LentDrains x = new LentDrains();
        CHECK.is("dry(0, 0)", x.dry(0, 0), 1000000000);
        CHECK.is("dry(1, 0)", x.dry(1, 0), 0);
        CHECK.is("dry(60, 100)", x.dry(60, 100), 1000000000);
        CHECK.is("dry(1, 37)", x.dry(1, 37), 370000000);
        CHECK.is("dry(5, 33)", x.dry(5, 33), 3913539);
        CHECK.is("dry(6, 33)", x.dry(6, 33), 1291467);
        CHECK.is("dry(60, 1)", x.dry(60, 1), 0);
        CHECK.is("dry(61, 1)", x.dry(61, 1), Check.OUTSIDE);
        CHECK.is("dry(-1, 1)", x.dry(-1, 1), Check.OUTSIDE);
        CHECK.is("dry(1, 101)", x.dry(1, 101), Check.OUTSIDE);
        CHECK.is("dry(1, -1)", x.dry(1, -1), Check.OUTSIDE);
    }
}
