/** Promises 27 to 29: seed, keep, goBack. */
public final class ImagesTest {
    private static final Check CHECK = new Check();

    public static void main(String[] args) {
        seeds();
        keeping();
        goingBack();
        twoImages();
        withoutTown();
        CHECK.end();
    }

    private static void seeds() {
        LentDrains x = new LentDrains();
        CHECK.is("seed(-1)", x.seed(-1), Check.OUTSIDE);
        CHECK.is("seed(2147483647)", x.seed(2147483647), 0);
        CHECK.is("seed(MIN)", x.seed(Integer.MIN_VALUE), Check.OUTSIDE);
        CHECK.is("seed(0)", x.seed(0), 2147483647);
        x.seed(2147483647);
        Check.feedAll(x, "t9 9;h999 0 9;");
        x.town();
        CHECK.is("the seed stays with a town", x.seed(2147483647), 2147483647);
        x.drift(1);
        CHECK.is("the seed behind a day's draws", x.seed(0), behindOneDay(2147483647L));
    }

    /** A day draws four times; a fifth time, for the aunt, where the second draw (of 4) was 0. */
    private static int behindOneDay(long seed) {
        long s = seed;
        int draws = 4;
        for (int i = 0; i < draws; i++) {
            s = Math.floorMod(s * 1103515245L + 12345L, 1L << 31);
            if (i == 1 && s / 65536 % 4 == 0) {
                draws = 5;
            }
        }
        return (int) s;
    }

    private static void keeping() {
        LentDrains x = Check.townOf(Check.FIVE);
        CHECK.is("keep(2)", x.keep(2), Check.UNKNOWN);
        CHECK.is("keep(-1)", x.keep(-1), Check.UNKNOWN);
        x.day(3);
        CHECK.is("nothing is lost by a refusal", x.told(12), 3);
        x.keep(2);
        CHECK.is("nothing is lost by a refusal", x.told(12), 3);
        CHECK.is("keep(1)", x.keep(1), 1);
        CHECK.is("nothing can be undone", x.told(12), 0);
        CHECK.is("undo", x.undo(1), Check.NOT);
        CHECK.is("days stay", x.told(4), 3);
    }

    private static void goingBack() {
        LentDrains x = Check.townOf(Check.FIVE);
        CHECK.is("goBack(2)", x.goBack(2), Check.UNKNOWN);
        CHECK.is("goBack(-1)", x.goBack(-1), Check.UNKNOWN);
        CHECK.is("goBack(0)", x.goBack(0), Check.NOT);
        x.day(8);
        x.hour(2);
        x.aunt(2, 7);
        x.seed(31);
        x.keep(0);
        String then = Check.picture(x);
        CHECK.is("goBack(1)", x.goBack(1), Check.NOT);
        x.drift(3);
        x.hour(4);
        x.aunt(0, 1);
        CHECK.is("goBack(1)", x.goBack(1), Check.NOT);
        CHECK.is("nothing is lost by a refusal", x.told(12), 8);
        CHECK.is("goBack(0)", x.goBack(0), 1);
        CHECK.unchanged("goBack", x, then);
        CHECK.is("the seed is back", x.seed(32), 31);
        CHECK.is("nothing can be undone", x.undo(1), Check.NOT);
        CHECK.is("goBack(0) again", x.goBack(0), 1);
        CHECK.is("the seed is back again", x.seed(31), 31);
        x.see(0, true);
        x.write(0, 9);
        x.goBack(0);
        CHECK.is("what was seen stays", x.told(10), 1);
        CHECK.is("the book stays", x.told(11), 1);
    }

    private static void twoImages() {
        LentDrains x = Check.townOf(Check.FIVE);
        x.day(1);
        x.keep(0);
        x.day(1);
        x.keep(1);
        x.day(1);
        CHECK.is("goBack(0)", x.goBack(0), 1);
        CHECK.is("days", x.told(4), 1);
        CHECK.is("goBack(1)", x.goBack(1), 1);
        CHECK.is("days", x.told(4), 2);
        CHECK.is("keep(0)", x.keep(0), 1);
        x.day(5);
        CHECK.is("goBack(0)", x.goBack(0), 1);
        CHECK.is("days", x.told(4), 2);
    }

    private static void withoutTown() {
        LentDrains x = new LentDrains();
        x.seed(7);
        CHECK.is("keep(0) without a town", x.keep(0), 1);
        x.seed(8);
        CHECK.is("goBack(0) without a town", x.goBack(0), 1);
        CHECK.is("the seed is back", x.seed(9), 7);
    }
}
