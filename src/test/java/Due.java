import java.nio.charset.StandardCharsets;

/** Counts the calls whose answer is not the one that is due. */
final class Due {
    private final String test;
    private String promise = "";
    private int wrong = 0;
    private int checked = 0;

    Due(String test) {
        this.test = test;
    }

    void promise(int number) {
        promise = "promise " + number;
    }

    void is(String call, long got, long want) {
        checked++;
        if (got != want) {
            wrong++;
            System.out.println(test + ", " + promise + ": " + call + " answered " + got + ", due is " + want);
        }
    }

    void end() {
        System.out.println(test + ": " + checked + " answers, " + wrong + " wrong");
        if (wrong != 0 || checked == 0) {
            System.exit(1);
        }
    }

    static void feed(DearPenFriend x, String text) {
        for (byte letter : text.getBytes(StandardCharsets.ISO_8859_1)) {
            x.feed(letter & 255);
        }
    }

    /** What list() answers to a text. */
    static int list(DearPenFriend x, String text) {
        feed(x, text);
        return x.list();
    }

    /** An object that has taken a list. */
    static DearPenFriend with(String text) {
        DearPenFriend x = new DearPenFriend();
        if (list(x, text) <= 0) {
            throw new IllegalStateException("the test's own list is at fault: " + text);
        }
        return x;
    }

    /** A shelf gets a row of ints with just these elements. */
    static void tell(DearPenFriend x, int shelf, long... deeds) {
        x.row(shelf, 2, deeds.length);
        for (int i = 0; i < deeds.length; i++) {
            x.set(shelf, i, deeds[i]);
        }
    }

    /** The deeds come to pass in truth, by shelf 7. */
    static int live(DearPenFriend x, long... deeds) {
        tell(x, 7, deeds);
        int answer = x.done(7, deeds.length);
        x.show(7, DearPenFriend.NONE);
        return answer;
    }

    static int refusals(DearPenFriend x) {
        int all = 0;
        for (int what = 12; what <= 16; what++) {
            all += x.status(what);
        }
        return all;
    }
}
