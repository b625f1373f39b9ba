/** What the tests share: counting what is not as due, and telling a town by its text. */
final class Check {
    static final int NONE = -1;
    static final int UNKNOWN = -1000000001;
    static final int OUTSIDE = -1000000002;
    static final int NOT = -1000000003;
    static final int FULL = -1000000004;

    /** Five houses: 0 to the river, 1 and 2 to 0, 3 to 1, 4 to the river. */
    static final String FIVE = "t6 5;h40 3 9;h20 4 0;h10 1 0;h30 6 1;h15 2 9;";

    private int asked = 0;
    private int wrong = 0;

    void is(String call, int got, int due) {
        asked++;
        if (got != due) {
            wrong++;
            System.out.println(call + " answered " + got + ", due is " + due);
        }
    }

    /** Ends the test: exit code 1 if an answer was not as due, or if none was asked for. */
    void end() {
        System.out.println(asked + " answers, " + wrong + " not as due");
        if (wrong != 0 || asked == 0) {
            System.exit(1);
        }
    }

    static void feedAll(LentDrains x, String text) {
        for (int i = 0; i < text.length(); i++) {
            x.feed(text.charAt(i));
        }
    }

    static LentDrains townOf(String text) {
        LentDrains x = new LentDrains();
        feedAll(x, text);
        x.town();
        return x;
    }

    /** Every answer that tells of the town, of section 2, of what was seen and of the book. */
    static String picture(LentDrains x) {
        StringBuilder all = new StringBuilder();
        for (int what = 0; what <= 12; what++) {
            all.append(x.told(what)).append(' ');
        }
        for (int h = 0; h < x.told(2); h++) {
            for (int what = 0; what <= 5; what++) {
                all.append(x.house(h, what)).append(' ');
            }
        }
        all.append(x.whence()).append(' ').append(x.judge());
        return all.toString();
    }

    void unchanged(String after, LentDrains x, String before) {
        String now = picture(x);
        asked++;
        if (!now.equals(before)) {
            wrong++;
            System.out.println(after + " changed " + before + " to " + now);
        }
    }
}
