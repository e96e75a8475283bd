/** Whatever only asks changes nothing; and a NONE, or a 0 of what isn't there, is no refusal. */
public final class UnchangedTest {
    private static final Due due = new Due("UnchangedTest");
    private static final Standing rich = new Standing(due, Standing::rich);
    private static final Standing full = new Standing(due, Standing::full);
    private static final Standing fresh = new Standing(due, DearPenFriend::new);
    private static final int LEAST = Integer.MIN_VALUE, GREATEST = Integer.MAX_VALUE;

    public static void main(String[] args) {
        shelves();
        ofPupils();
        ofPairs();
        ofSchools();
        ofToldWeeks();
        status();
        noneIsNotRefused();
        inThought();
        due.end();
    }

    private static void shelves() {
        due.promise(5);
        rich.asked(300, "element", 0, 0);
        rich.asked(7, "element", 0, 4);
        int[][] none = {{0, 5}, {0, -1}, {0, LEAST}, {0, GREATEST}, {6, 0}, {2, 0}, {4, 0}, {-1, 0}, {8, 0}, {LEAST, 0}, {GREATEST, 0}};
        for (int[] n : none) {
            rich.asked(0, "element", n[0], n[1]);
        }
        due.promise(6);
        int[] holds = {2, 0, 14, 4, -1, 12, 2, 2};
        for (int s = 0; s < 8; s++) {
            rich.asked(holds[s], "holds", s);
        }
        int[] noShelf = {-1, 8, LEAST, GREATEST};
        for (int s : noShelf) {
            rich.asked(-1, "holds", s);
        }
        due.promise(8);
        rich.unchanged("says", 2, 0);
        rich.unchanged("says", 2, 2);
        rich.unchanged("says", 5, 0);
    }

    private static void ofPupils() {
        for (int p = 0; p < 6; p++) {
            due.promise(17);
            for (int what = 0; what < 8; what++) {
                rich.unchanged("pupilOf", p, what);
            }
            due.promise(26);
            rich.unchanged("best", p);
            due.promise(35);
            rich.unchanged("near", p, 0);
            rich.unchanged("near", p, 8);
            for (int q = 0; q < 6; q++) {
                due.promise(18);
                rich.unchanged("common", p, q);
                due.promise(38);
                if (p % 2 != q % 2) {
                    rich.unchanged("asPair", p, q, 0);
                    rich.unchanged("asPair", p, q, 1);
                }
            }
        }
    }

    private static void ofPairs() {
        int[] paired = {0, 1, 4, 5};
        for (int p : paired) {
            due.promise(19);
            rich.unchanged("will", p, 0);
            rich.unchanged("will", p, 1);
            due.promise(20);
            rich.unchanged("over", p);
            due.promise(21);
            rich.unchanged("still", p, 12);
            due.promise(22);
            rich.unchanged("again", p, 900000);
            due.promise(23);
            rich.unchanged("lost", p, 40);
            due.promise(36);
            rich.unchanged("lasts", p);
            due.promise(37);
            rich.unchanged("wish", p);
            due.promise(40);
            rich.unchanged("bears", p, 12, 900000);
            due.promise(41);
            rich.unchanged("drift", p, 40);
        }
    }

    private static void ofSchools() {
        due.promise(24);
        rich.unchanged("paired", -1);
        rich.unchanged("paired", 0);
        full.unchanged("paired", 0);
        due.promise(25);
        rich.unchanged("left");
        due.promise(27);
        for (int what = 0; what < 3; what++) {
            rich.unchanged("same", what);
            due.promise(31);
            rich.unchanged("first", 0, what);
            rich.unchanged("first", 1, what);
            due.promise(27);
        }
        due.promise(28);
        rich.unchanged("may");
        due.promise(29);
        rich.unchanged("fridays");
        due.promise(30);
        rich.unchanged("tongue");
        due.promise(32);
        rich.unchanged("mean");
        due.promise(33);
        rich.unchanged("weakest", 12);
        due.promise(34);
        rich.unchanged("with", 2);
        due.promise(39);
        rich.unchanged("wanted", 1);
        due.promise(42);
        rich.unchanged("alike");
        due.promise(43);
        rich.unchanged("keen");
        due.promise(44);
        rich.unchanged("owing");
    }

    private static void ofToldWeeks() {
        due.promise(45);
        rich.unchanged("meant", 1, 3, 0);
        rich.unchanged("meant", 1, 3, 5);
        rich.unchanged("meant", 3, 2, 0);
        due.promise(46);
        rich.unchanged("judge", 0, 1);
        rich.unchanged("judge", 0, 5);
        due.promise(47);
        for (int what = 0; what < 3; what++) {
            rich.unchanged("behind", 0, 1, what);
            rich.unchanged("behind", 0, 0, what);
        }
    }

    private static void status() {
        due.promise(54);
        for (int what = -1; what <= 17; what++) {
            rich.unchanged("status", what);
        }
        int[] others = {-1, 10, 11, 17, LEAST, GREATEST};
        for (int what : others) {
            rich.asked(-1, "status", what);
        }
    }

    private static void noneIsNotRefused() {
        due.promise(22);
        rich.asked(-1, "again", 0, 1000000);
        due.promise(24);
        new Standing(due, () -> Due.with("pupil 0 0 0")).asked(-1, "paired", 0);
        fresh.asked(0, "paired", -1);
        due.promise(27);
        fresh.asked(-1, "same", 2);
        due.promise(30);
        // PROUD with a 0 never writes
        new Standing(due, () -> Due.with("pupil 4 0 0;pupil 0 0 1;pair 0 1")).asked(-1, "tongue");
        due.promise(36);
        new Standing(due, () -> Due.with("pupil 4 0 0;pupil 0 0 1;pair 0 1;friday 1;toil 0")).asked(-1, "lasts", 0);
        due.promise(37);
        rich.asked(-1, "wish", 0);
        due.promise(40);
        rich.asked(-1, "bears", 0, 0, 1);
        due.promise(46);
        rich.asked(-1, "judge", 0, 0);
    }

    /** What is worked out in thought for one call is forgotten by the next. */
    private static void inThought() {
        DearPenFriend x = Standing.rich();
        String[] calls = {"fridays", "tongue", "may", "left", "alike", "owing"};
        for (String call : calls) {
            long first = Standing.call(x, call);
            x.behind(0, 1, 0);
            x.bears(0, 12, 1000000);
            x.meant(1, 3, 0);
            x.wish(4);
            due.is(call + "() once more", Standing.call(x, call), first);
        }
        due.is("will(0, 0), behind all of it", x.will(0, 0), Standing.rich().will(0, 0));
    }
}
