/** Promises 21 to 26: see, whence, lookAt, write, judge, tear. */
public final class SeenTest {
    private static final Check CHECK = new Check();

    public static void main(String[] args) {
        seeing();
        whenceItCame();
        lookingNext();
        writing();
        judging();
        tearing();
        CHECK.end();
    }

    private static void seeing() {
        LentDrains x = Check.townOf(Check.FIVE);
        CHECK.is("see(5)", x.see(5, true), Check.UNKNOWN);
        CHECK.is("see(-1)", x.see(-1, false), Check.UNKNOWN);
        for (int i = 1; i <= 6; i++) {
            CHECK.is("see no. " + i, x.see(0, true), i);
        }
        CHECK.is("see no. 7", x.see(0, true), Check.FULL);
        CHECK.is("see(5) when full", x.see(5, true), Check.UNKNOWN);
        CHECK.is("what was seen", x.told(10), 6);
        CHECK.is("whence", x.whence(), 15);
        CHECK.is("see without a town", new LentDrains().see(0, true), Check.UNKNOWN);
    }

    private static void whenceItCame() {
        LentDrains x = Check.townOf(Check.FIVE);
        CHECK.is("whence, nothing seen", x.whence(), 31);
        x.see(1, false);
        CHECK.is("whence", x.whence(), 21);
        x.see(4, false);
        CHECK.is("whence", x.whence(), 5);
        x.see(2, true);
        CHECK.is("whence", x.whence(), 4);
        x.see(1, true);
        CHECK.is("whence", x.whence(), 0);
        LentDrains y = Check.townOf(Check.FIVE);
        y.see(3, true);
        CHECK.is("it comes by its own house", y.whence(), 8);
        CHECK.is("whence without houses", Check.townOf("t1 1;").whence(), 0);
    }

    private static void lookingNext() {
        // A line of four: by house 1 (3 and 1), 2 (2 and 2), 3 (1 and 3).
        LentDrains x = Check.townOf("t1 1;h0 0 9;h0 0 0;h0 0 1;h0 0 2;");
        CHECK.is("lookAt", x.lookAt(), 2);
        x.see(2, true);
        CHECK.is("lookAt", x.lookAt(), 3);
        x.see(3, true);
        CHECK.is("lookAt, one is left", x.lookAt(), Check.NONE);
        x.see(0, false);
        CHECK.is("lookAt, none is left", x.lookAt(), Check.NONE);
        LentDrains like = Check.townOf("t1 1;h0 0 9;h0 0 9;h0 0 9;");
        CHECK.is("of like ones the least", like.lookAt(), 0);
        CHECK.is("lookAt of one", Check.townOf("t1 1;h0 0 9;").lookAt(), Check.NONE);
        CHECK.is("lookAt of none", Check.townOf("t1 1;").lookAt(), Check.NONE);
    }

    private static void writing() {
        LentDrains x = Check.townOf(Check.FIVE);
        CHECK.is("write(5, 1000)", x.write(5, 1000), Check.UNKNOWN);
        CHECK.is("write(0, 1000)", x.write(0, 1000), Check.OUTSIDE);
        CHECK.is("write(0, -1)", x.write(0, -1), Check.OUTSIDE);
        for (int i = 1; i <= 20; i++) {
            CHECK.is("write no. " + i, x.write(i % 5, i == 1 ? 999 : 0), i);
        }
        CHECK.is("write no. 21", x.write(0, 0), Check.FULL);
        CHECK.is("write(0, 1000) when full", x.write(0, 1000), Check.OUTSIDE);
        CHECK.is("write(5, 0) when full", x.write(5, 0), Check.UNKNOWN);
        CHECK.is("entries", x.told(11), 20);
    }

    private static void judging() {
        LentDrains x = Check.townOf(Check.FIVE);
        CHECK.is("judge, no book", x.judge(), Check.NONE);
        x.write(4, 0);
        x.write(3, 0);
        CHECK.is("judge", x.judge(), Check.NONE);
        x.write(3, 6);
        CHECK.is("judge: the entry's number", x.judge(), 2);
        x.day(1);
        CHECK.is("judge", x.judge(), 0);
        x.pail(4, 0, 2);
        CHECK.is("judge", x.judge(), 1);
        x.undo(2);
        CHECK.is("judge", x.judge(), 2);
    }

    private static void tearing() {
        LentDrains x = Check.townOf(Check.FIVE);
        CHECK.is("tear, nothing there", x.tear(), 0);
        x.see(0, true);
        x.see(1, true);
        x.write(0, 5);
        x.day(1);
        CHECK.is("tear", x.tear(), 3);
        CHECK.is("what was seen", x.told(10), 0);
        CHECK.is("entries", x.told(11), 0);
        CHECK.is("whence", x.whence(), 31);
        CHECK.is("judge", x.judge(), Check.NONE);
        CHECK.is("the day stays", x.told(4), 1);
        CHECK.is("see again", x.see(4, false), 1);
        CHECK.is("whence", x.whence(), 15);
        CHECK.is("tear again", x.tear(), 1);
    }
}
