import java.util.function.Supplier;
import java.util.function.ToIntFunction;

/** What Terms say of all calls: numbers, SETS, the order of the REFUSALS, and that these change nothing. */
public final class TermsBoundsTest {
    private static final int[] FAR = {Integer.MIN_VALUE, Check.FULL, Check.UNKNOWN, Integer.MAX_VALUE};

    private static final Check CHECK = new Check();

    public static void main(String[] args) {
        cutTowardsZero();
        numbersFromZeroOn();
        sets();
        constants();
        farBelowAllCounted();
        billion();
        unknownHouses();
        unknownImages();
        oneTwice();
        unknownAheadOfAll();
        outsideAheadOfNotAndFull();
        refusalsOfATown();
        refusalsWhereAllIsFull();
        refusalsWhereDaysAreFull();
        refusalsWithoutATown();
        CHECK.end();
    }

    private static void cutTowardsZero() {
        CHECK.sentence("Terms", "/ cuts towards 0");
        LentDrains x = new LentDrains();
        CHECK.is("dry(6, 33): 1291467.87", x.dry(6, 33), 1291467);
        CHECK.is("dry(9, 1): 0.000000001", x.dry(9, 1), 0);
    }

    private static void numbersFromZeroOn() {
        CHECK.sentence("Terms", "What has a number has it from 0 on, as it comes.");
        LentDrains x = Check.townOf("t9 1;h11 1 9;h22 2 0;h33 3 1;");
        for (int h = 0; h < 3; h++) {
            CHECK.is("ROOM of HOUSE " + h, x.house(h, 0), 11 * (h + 1));
        }
        CHECK.is("the first DAY", x.told(4), 0);
        x.write(2, 1);
        CHECK.is("the first entry", x.judge(), 0);
        CHECK.is("the first IMAGE", x.keep(0), 1);
        Check.feedAll(x, "?");
        x.town();
        CHECK.is("the first letter", x.fault(), 0);
    }

    private static void sets() {
        CHECK.sentence("Terms", "A SET is a whole number, bit k for k");
        LentDrains x = Check.townOf("t9 1;h1 1 9;h1 1 9;h1 1 9;h1 1 9;h1 1 9;h1 1 9;h1 1 9;h1 1 9;");
        CHECK.is("all of them", x.whence(), 255);
        for (int h = 0; h < 8; h++) {
            CHECK.is("house(" + h + ", 5)", x.house(h, 5), 1 << h);
            x.aunt(h, 1);
            CHECK.is("AWAY up to " + h, x.told(9), (2 << h) - 1);
        }
    }

    private static void constants() {
        CHECK.sentence("Terms", "NONE is -1.");
        CHECK.is("NONE", LentDrains.NONE, -1);
    }

    private static void farBelowAllCounted() {
        CHECK.sentence("Terms", "They are far below all that is counted: -1000000001 and on.");
        CHECK.is("UNKNOWN", LentDrains.UNKNOWN, -1000000001);
        CHECK.is("OUTSIDE", LentDrains.OUTSIDE, -1000000002);
        CHECK.is("NOT", LentDrains.NOT, -1000000003);
        CHECK.is("FULL", LentDrains.FULL, -1000000004);
    }

    private static void billion() {
        CHECK.sentence("Terms", "BILLION is 1000000000.");
        CHECK.is("dry(0, 50)", new LentDrains().dry(0, 50), 1000000000);
    }

    /** Every call that asks for a HOUSE. */
    private static void unknownHouse(LentDrains x, int h) {
        CHECK.is("house(" + h + ", 0)", x.house(h, 0), Check.UNKNOWN);
        CHECK.is("pail(" + h + ", 0, 1)", x.pail(h, 0, 1), Check.UNKNOWN);
        CHECK.is("pail(0, " + h + ", 1)", x.pail(0, h, 1), Check.UNKNOWN);
        CHECK.is("aunt(" + h + ", 1)", x.aunt(h, 1), Check.UNKNOWN);
        CHECK.is("level(" + h + ", 1)", x.level(h, 1), Check.UNKNOWN);
        CHECK.is("see(" + h + ", true)", x.see(h, true), Check.UNKNOWN);
        CHECK.is("write(" + h + ", 1)", x.write(h, 1), Check.UNKNOWN);
    }

    private static void unknownHouses() {
        CHECK.sentence("Terms", "a HOUSE, IMAGE that there is not");
        String[] texts = {"", "t9 1;", "t9 1;h1 1 9;", "t9 1;h1 1 9;h1 1 9;h1 1 9;h1 1 9;h1 1 9;h1 1 9;h1 1 9;h1 1 9;"};
        for (String text : texts) {
            LentDrains x = Check.townOf(text);
            unknownHouse(x, -1);
            unknownHouse(x, x.told(2));
            unknownHouse(x, 9);
            for (int h : FAR) {
                unknownHouse(x, h);
            }
        }
        LentDrains fewer = Check.townOf("t9 1;h1 1 9;h1 1 9;h1 1 9;");
        Check.feedAll(fewer, "t9 1;h1 1 9;");
        fewer.town();
        unknownHouse(fewer, 1);
        unknownHouse(fewer, 2);
    }

    private static void unknownImages() {
        CHECK.sentence("Terms", "IMAGE that there is not");
        LentDrains x = Check.townOf(Check.FIVE);
        for (int i : new int[] {-1, 2, 3, Integer.MIN_VALUE, Integer.MAX_VALUE}) {
            CHECK.is("keep(" + i + ")", x.keep(i), Check.UNKNOWN);
            CHECK.is("goBack(" + i + ")", x.goBack(i), Check.UNKNOWN);
        }
    }

    private static void oneTwice() {
        CHECK.sentence("Terms", "one twice, where two are asked");
        LentDrains x = Check.townOf(Check.FIVE);
        x.day(1);
        for (int h = 0; h < 5; h++) {
            CHECK.is("pail(" + h + ", " + h + ", 1)", x.pail(h, h, 1), Check.UNKNOWN);
        }
        CHECK.is("pail(7, 7, 1)", x.pail(7, 7, 1), Check.UNKNOWN);
    }

    private static void unknownAheadOfAll() {
        CHECK.sentence("Terms", "REFUSALS, of several the first in this order: UNKNOWN");
        LentDrains x = full();
        CHECK.is("house(5, 6)", x.house(5, 6), Check.UNKNOWN);
        CHECK.is("pail(5, 0, 0)", x.pail(5, 0, 0), Check.UNKNOWN);
        CHECK.is("pail(0, 5, 1000)", x.pail(0, 5, 1000), Check.UNKNOWN);
        CHECK.is("pail(0, 0, 1000)", x.pail(0, 0, 1000), Check.UNKNOWN);
        CHECK.is("pail(0, 0, 999): nor is there so much", x.pail(0, 0, 999), Check.UNKNOWN);
        CHECK.is("aunt(5, 61)", x.aunt(5, 61), Check.UNKNOWN);
        CHECK.is("level(5, 61)", x.level(5, 61), Check.UNKNOWN);
        CHECK.is("see(5, true), FULL", x.see(5, true), Check.UNKNOWN);
        CHECK.is("write(5, 1000), FULL", x.write(5, 1000), Check.UNKNOWN);
        CHECK.is("write(5, 0), FULL", x.write(5, 0), Check.UNKNOWN);
        CHECK.is("goBack(2), nothing kept", x.goBack(2), Check.UNKNOWN);
    }

    private static void outsideAheadOfNotAndFull() {
        CHECK.sentence("Terms", "OUTSIDE (another number out of its bounds), NOT (not now, as told), FULL.");
        LentDrains x = full();
        CHECK.is("feed(256), FULL", x.feed(256), Check.OUTSIDE);
        CHECK.is("feed(-1), FULL", x.feed(-1), Check.OUTSIDE);
        CHECK.is("write(0, 1000), FULL", x.write(0, 1000), Check.OUTSIDE);
        CHECK.is("write(0, -1), FULL", x.write(0, -1), Check.OUTSIDE);
        CHECK.is("pail(0, 1, 1000): nor is there so much", x.pail(0, 1, 1000), Check.OUTSIDE);
        CHECK.is("hour(0) in LENT", x.hour(0), Check.OUTSIDE);
        CHECK.is("hour(31) in LENT", x.hour(31), Check.OUTSIDE);
        CHECK.is("undo(31), not so many", x.undo(31), Check.OUTSIDE);
        LentDrains none = new LentDrains();
        CHECK.is("day(0) without a TOWN", none.day(0), Check.OUTSIDE);
        CHECK.is("drift(31) without a TOWN", none.drift(31), Check.OUTSIDE);
        CHECK.is("hour(0) without a TOWN", none.hour(0), Check.OUTSIDE);
        CHECK.is("undo(0), none there", none.undo(0), Check.OUTSIDE);
        LentDrains late = daysFull();
        CHECK.is("day(0), FULL", late.day(0), Check.OUTSIDE);
        CHECK.is("day(31), FULL", late.day(31), Check.OUTSIDE);
        CHECK.is("drift(0), FULL", late.drift(0), Check.OUTSIDE);
        CHECK.is("drift(31), FULL", late.drift(31), Check.OUTSIDE);
    }

    // ---- what is refused changes nothing

    private static LentDrains rich() {
        LentDrains x = Check.lived();
        Check.feedAll(x, "t8 3;h1 2 9;h3 4 0");
        return x;
    }

    /** The text, what is SEEN and THE BOOK are full; no IMAGE is kept. */
    private static LentDrains full() {
        LentDrains x = Check.townOf(Check.FIVE);
        x.day(2);
        for (int i = 0; i < 6; i++) {
            x.see(0, true);
        }
        for (int i = 0; i < 20; i++) {
            x.write(0, 6);
        }
        Check.feedAll(x, "t8 3;h1 2 9;" + " ".repeat(180) + "h3 4 0;;");
        return x;
    }

    private static LentDrains daysFull() {
        LentDrains x = Check.townOf("t1 1;h9 5 9;");
        for (int i = 0; i < 300; i++) {
            x.day(30);
        }
        x.keep(0);
        x.day(1);
        return x;
    }

    private static void refused(Supplier<LentDrains> maker, String call, ToIntFunction<LentDrains> made, int due) {
        LentDrains x = maker.get();
        CHECK.is(call, made.applyAsInt(x), due);
        CHECK.same("all behind " + call, Check.wholePicture(x), Check.wholePicture(maker.get()));
    }

    private static void refusalsOfATown() {
        CHECK.sentence("Terms", "What is refused changes nothing.");
        Supplier<LentDrains> of = TermsBoundsTest::rich;
        refused(of, "feed(-1)", x -> x.feed(-1), Check.OUTSIDE);
        refused(of, "feed(256)", x -> x.feed(256), Check.OUTSIDE);
        refused(of, "told(13)", x -> x.told(13), Check.OUTSIDE);
        refused(of, "house(5, 0)", x -> x.house(5, 0), Check.UNKNOWN);
        refused(of, "house(0, 6)", x -> x.house(0, 6), Check.OUTSIDE);
        refused(of, "day(0)", x -> x.day(0), Check.OUTSIDE);
        refused(of, "day(31)", x -> x.day(31), Check.OUTSIDE);
        refused(of, "pail(1, 1, 1)", x -> x.pail(1, 1, 1), Check.UNKNOWN);
        refused(of, "pail(1, 0, 0)", x -> x.pail(1, 0, 0), Check.OUTSIDE);
        refused(of, "pail(1, 0, -1)", x -> x.pail(1, 0, -1), Check.OUTSIDE);
        refused(of, "pail(1, 0, 1000)", x -> x.pail(1, 0, 1000), Check.OUTSIDE);
        refused(of, "pail(1, 0, 999)", x -> x.pail(1, 0, 999), Check.NOT);
        refused(of, "aunt(5, 1)", x -> x.aunt(5, 1), Check.UNKNOWN);
        refused(of, "aunt(3, 61)", x -> x.aunt(3, 61), Check.OUTSIDE);
        refused(of, "aunt(3, -1)", x -> x.aunt(3, -1), Check.OUTSIDE);
        refused(of, "hour(1)", x -> x.hour(1), Check.NOT);
        refused(of, "hour(31)", x -> x.hour(31), Check.OUTSIDE);
        refused(of, "drift(0)", x -> x.drift(0), Check.OUTSIDE);
        refused(of, "drift(31)", x -> x.drift(31), Check.OUTSIDE);
        refused(of, "undo(0)", x -> x.undo(0), Check.OUTSIDE);
        refused(of, "undo(31)", x -> x.undo(31), Check.OUTSIDE);
        refused(of, "undo(4)", x -> x.undo(4), Check.NOT);
        refused(of, "see(5, true)", x -> x.see(5, true), Check.UNKNOWN);
        refused(of, "write(5, 1)", x -> x.write(5, 1), Check.UNKNOWN);
        refused(of, "write(0, 1000)", x -> x.write(0, 1000), Check.OUTSIDE);
        refused(of, "write(0, -1)", x -> x.write(0, -1), Check.OUTSIDE);
        refused(of, "seed(-1)", x -> x.seed(-1), Check.OUTSIDE);
        refused(of, "keep(2)", x -> x.keep(2), Check.UNKNOWN);
        refused(of, "keep(-1)", x -> x.keep(-1), Check.UNKNOWN);
        refused(of, "goBack(2)", x -> x.goBack(2), Check.UNKNOWN);
        refused(of, "goBack(1)", x -> x.goBack(1), Check.NOT);
    }

    private static void refusalsWhereAllIsFull() {
        CHECK.sentence("Terms", "What is refused changes nothing.");
        Supplier<LentDrains> of = TermsBoundsTest::full;
        refused(of, "feed(';')", x -> x.feed(';'), Check.FULL);
        refused(of, "see(1, true)", x -> x.see(1, true), Check.FULL);
        refused(of, "write(1, 1)", x -> x.write(1, 1), Check.FULL);
        refused(of, "pail(0, 1, 7)", x -> x.pail(0, 1, 7), Check.NOT);
        refused(of, "goBack(0)", x -> x.goBack(0), Check.NOT);
        refused(of, "pulled(1234)", x -> x.pulled(1234), Check.OUTSIDE);
        refused(of, "breath(4)", x -> x.breath(4), Check.OUTSIDE);
        refused(of, "best(2)", x -> x.best(2), Check.OUTSIDE);
        refused(of, "level(0, 61)", x -> x.level(0, 61), Check.OUTSIDE);
        refused(of, "spills(61)", x -> x.spills(61), Check.OUTSIDE);
        refused(of, "dry(61, 1)", x -> x.dry(61, 1), Check.OUTSIDE);
    }

    private static void refusalsWhereDaysAreFull() {
        CHECK.sentence("Terms", "What is refused changes nothing.");
        Supplier<LentDrains> of = TermsBoundsTest::daysFull;
        refused(of, "day(1)", x -> x.day(1), Check.FULL);
        refused(of, "drift(1)", x -> x.drift(1), Check.FULL);
        refused(of, "undo(2)", x -> x.undo(2), Check.NOT);
    }

    private static void refusalsWithoutATown() {
        CHECK.sentence("Terms", "What is refused changes nothing.");
        Supplier<LentDrains> of = LentDrains::new;
        refused(of, "day(1)", x -> x.day(1), Check.NOT);
        refused(of, "hour(1)", x -> x.hour(1), Check.NOT);
        refused(of, "drift(1)", x -> x.drift(1), Check.NOT);
        refused(of, "undo(1)", x -> x.undo(1), Check.NOT);
        refused(of, "goBack(0)", x -> x.goBack(0), Check.NOT);
        refused(of, "pulled(1)", x -> x.pulled(1), Check.OUTSIDE);
        refused(of, "see(0, true)", x -> x.see(0, true), Check.UNKNOWN);
        refused(of, "write(0, 0)", x -> x.write(0, 0), Check.UNKNOWN);
    }
}
