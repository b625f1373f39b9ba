/** What the tests share: counting what is not as due, and telling a town by its text. */
final class Check {
    static final int NONE = -1;
    static final int UNKNOWN = -1000000001;
    static final int OUTSIDE = -1000000002;
    static final int NOT = -1000000003;
    static final int FULL = -1000000004;

    /** Five houses: 0 to the river, 1 and 2 to 0, 3 to 1, 4 to the river. */
    static final String FIVE = "t6 5;h40 3 9;h20 4 0;h10 1 0;h30 6 1;h15 2 9;";

    private int asked = 0;
    private int wrong = 0;
    private String where = "";

    /** From here on it is this sentence of the document that is asked for; SentencesTest looks the words up. */
    void sentence(String part, String words) {
        where = "[" + part + ": " + words + "] ";
    }

    void is(String call, int got, int due) {
        asked++;
        if (got != due) {
            wrong++;
            System.out.println(where + call + " answered " + got + ", due is " + due);
        }
    }

    void same(String what, String got, String due) {
        asked++;
        if (!got.equals(due)) {
            wrong++;
            System.out.println(where + what + " answered " + got + ", due is " + due);
        }
    }

    /** Ends the test: exit code 1 if an answer was not as due, or if none was asked for. */
    void end() {
        System.out.println(asked + " answers, " + wrong + " not as due");
        if (wrong != 0 || asked == 0) {
            System.exit(1);
        }
    }

    static void feedAll(LentDrains x, String text) {
        for (int i = 0; i < text.length(); i++) {
            x.feed(text.charAt(i));
        }
    }

    static LentDrains townOf(String text) {
        LentDrains x = new LentDrains();
        feedAll(x, text);
        x.town();
        return x;
    }

    /** FIVE with something of all that an object can hold but a text; image 1 alone is not kept. */
    static LentDrains lived() {
        LentDrains x = townOf(FIVE);
        x.seed(77);
        x.drift(2);
        x.keep(0);
        x.aunt(3, 2);
        x.day(1);
        x.pail(0, 1, 2);
        x.see(0, true);
        x.see(1, false);
        x.write(0, 4);
        x.write(4, 1);
        return x;
    }

    /** Every answer that tells of the town, of section 2, of what was seen and of the book. */
    static String picture(LentDrains x) {
        StringBuilder all = new StringBuilder();
        for (int what = 0; what <= 12; what++) {
            all.append(x.told(what)).append(' ');
        }
        for (int h = 0; h < x.told(2); h++) {
            for (int what = 0; what <= 5; what++) {
                all.append(x.house(h, what)).append(' ');
            }
        }
        all.append(x.whence()).append(' ').append(x.judge());
        return all.toString();
    }

    /**
     * All that an object holds, what only later calls would show with it: the seed, what can be undone,
     * images, the text. The object is used up by it.
     */
    static String wholePicture(LentDrains x) {
        StringBuilder all = new StringBuilder(picture(x));
        all.append(" fault ").append(x.fault()).append(" seed ").append(x.seed(5)).append(" undone");
        for (int i = x.told(12); i > 0; i--) {
            all.append(' ').append(x.undo(1)).append(' ').append(x.told(6)).append(' ').append(x.told(9));
        }
        all.append(" first ").append(x.told(7)).append(' ').append(x.told(8));
        for (int i = 0; i < 2; i++) {
            all.append(" image ").append(x.goBack(i)).append(' ').append(x.seed(6)).append(' ').append(picture(x));
        }
        all.append(" text ").append(x.town()).append(' ').append(x.fault());
        for (int h = 0; h < x.told(2); h++) {
            all.append(' ').append(x.house(h, 0)).append(' ').append(x.house(h, 1)).append(' ').append(x.house(h, 2));
        }
        return all.toString();
    }

    void kept(String when, LentDrains x, int... due) {
        for (int h = 0; h < due.length; h++) {
            is(when + ", HOUSE " + h + " KEEPS", x.house(h, 3), due[h]);
        }
    }

    void breath(String when, LentDrains x, int... due) {
        for (int what = 0; what < due.length; what++) {
            is(when + ", breath(" + what + ")", x.breath(what), due[what]);
        }
    }

    void unchanged(String after, LentDrains x, String before) {
        same("all that is told behind " + after, picture(x), before);
    }
}
