/**
 * Every refusal of promises 2 to 54: its number, which comes first where more than one fits, and that nothing
 * changes then but how many there were; and of each number that may be the least and the greatest, which aren't refused.
 */
public final class RefusalsTest {
    private static final Due due = new Due("RefusalsTest");
    private static final Standing rich = new Standing(due, Standing::rich);
    private static final Standing full = new Standing(due, Standing::full);
    private static final Standing fedUp = new Standing(due, Standing::fedUp);
    private static final Standing fresh = new Standing(due, DearPenFriend::new);

    private static final int BAD = -2, OTHER = -3, NOTHING = -4, STUCK = -5, FULL = -6;
    private static final int LEAST = Integer.MIN_VALUE, GREATEST = Integer.MAX_VALUE;
    /** What stands in Standing.rich(). */
    private static final int INTS = 0, BYTES = 1, PUPIL = 2, YES_NO = 3, EMPTY = 4, FREE_PUPIL = 5, NO_ELEMENTS = 6;
    private static final int[] NO_SHELF = {-1, 8, LEAST, GREATEST};
    private static final int[] NO_PUPIL = {-1, 6, 12, LEAST, GREATEST};

    public static void main(String[] args) {
        rows();
        copies();
        shows();
        pupils();
        pairs();
        asks();
        tape();
        onePupil();
        onePair();
        wholeSchools();
        toldWeeks();
        toldYears();
        inTruth();
        counted();
        due.end();
    }

    private static void rows() {
        due.promise(2);
        for (int s : NO_SHELF) {
            rich.refused(BAD, "row", s, 0, 0);
            rich.refused(BAD, "row", s, 5, 41);
        }
        rich.refused(BAD, "row", INTS, -1, 3);
        rich.refused(BAD, "row", INTS, 5, 3);
        rich.refused(BAD, "row", EMPTY, LEAST, 3);
        rich.refused(BAD, "row", EMPTY, GREATEST, 3);
        rich.refused(BAD, "row", INTS, 2, -1);
        rich.refused(BAD, "row", INTS, 2, 41);
        rich.refused(BAD, "row", PUPIL, 2, LEAST);
        rich.refused(BAD, "row", PUPIL, 2, GREATEST);
        rich.taken(1, "row", 0, 0, 0);
        rich.taken(1, "row", 7, 4, 40);
        rich.taken(1, "row", PUPIL, 3, 1);

        due.promise(3);
        for (int s : NO_SHELF) {
            rich.refused(BAD, "set", s, 0, 1);
            rich.refused(BAD, "set", s, -1, 1);
        }
        rich.refused(OTHER, "set", PUPIL, 0, 1);
        rich.refused(OTHER, "set", PUPIL, -1, 1);
        rich.refused(OTHER, "set", PUPIL, 40, 1);
        rich.refused(NOTHING, "set", EMPTY, 0, 1);
        rich.refused(NOTHING, "set", EMPTY, -1, 1);
        rich.refused(NOTHING, "set", EMPTY, 40, 1);
        rich.refused(BAD, "set", INTS, -1, 1);
        rich.refused(BAD, "set", INTS, 5, 1);
        rich.refused(BAD, "set", INTS, 40, 1);
        rich.refused(BAD, "set", INTS, LEAST, 1);
        rich.refused(BAD, "set", INTS, GREATEST, 1);
        rich.refused(BAD, "set", NO_ELEMENTS, 0, 1);
        rich.taken(1, "set", INTS, 0, Long.MIN_VALUE);
        rich.taken(1, "set", INTS, 4, Long.MAX_VALUE);
    }

    private static void copies() {
        due.promise(4);
        for (int s : NO_SHELF) {
            rich.refused(BAD, "copy", s, INTS, 0, 0, 1);
            rich.refused(BAD, "copy", INTS, s, 0, 0, 1);
            rich.refused(BAD, "copy", s, PUPIL, 0, 0, 1);
            rich.refused(BAD, "copy", EMPTY, s, -1, 0, 1);
        }
        rich.refused(OTHER, "copy", PUPIL, INTS, 0, 0, 1);
        rich.refused(OTHER, "copy", INTS, PUPIL, 0, 0, 1);
        rich.refused(OTHER, "copy", PUPIL, FREE_PUPIL, 0, 0, 1);
        rich.refused(OTHER, "copy", PUPIL, PUPIL, 0, 0, 0);
        rich.refused(OTHER, "copy", PUPIL, EMPTY, 0, 0, 1);
        rich.refused(OTHER, "copy", EMPTY, PUPIL, 0, 0, 1);
        rich.refused(OTHER, "copy", INTS, BYTES, 0, 0, 1);
        rich.refused(OTHER, "copy", YES_NO, BYTES, 0, 0, 0);
        rich.refused(OTHER, "copy", INTS, BYTES, -1, 9, 50);
        rich.refused(OTHER, "copy", PUPIL, INTS, -1, 9, 50);
        rich.refused(NOTHING, "copy", INTS, EMPTY, 0, 0, 1);
        rich.refused(NOTHING, "copy", EMPTY, INTS, 0, 0, 1);
        rich.refused(NOTHING, "copy", EMPTY, EMPTY, 0, 0, 0);
        rich.refused(NOTHING, "copy", INTS, EMPTY, -1, 9, 50);
        rich.refused(NOTHING, "copy", EMPTY, BYTES, -1, 9, 50);
        rich.refused(BAD, "copy", INTS, 7, -1, 0, 1);
        rich.refused(BAD, "copy", INTS, 7, 5, 0, 1);
        rich.refused(BAD, "copy", INTS, 7, 0, -1, 1);
        rich.refused(BAD, "copy", INTS, 7, 0, 5, 1);
        rich.refused(BAD, "copy", INTS, 7, 0, 0, -1);
        rich.refused(BAD, "copy", INTS, 7, 0, 0, 6);
        rich.refused(BAD, "copy", INTS, 7, 1, 0, 5);
        rich.refused(BAD, "copy", INTS, 7, 0, 1, 5);
        rich.refused(BAD, "copy", INTS, NO_ELEMENTS, 0, 0, 1);
        rich.refused(BAD, "copy", NO_ELEMENTS, INTS, 0, 0, 1);
        rich.refused(BAD, "copy", INTS, 7, GREATEST, 0, 1);
        rich.refused(BAD, "copy", INTS, 7, 1, 0, GREATEST);
        rich.refused(BAD, "copy", INTS, 7, 0, GREATEST, GREATEST);
        rich.refused(BAD, "copy", INTS, 7, LEAST, 0, LEAST);
        rich.taken(5, "copy", INTS, 7, 0, 0, 5);
        rich.taken(1, "copy", INTS, 7, 4, 4, 1);
        rich.taken(0, "copy", NO_ELEMENTS, NO_ELEMENTS, 0, 0, 0);
    }

    private static void shows() {
        due.promise(7);
        for (int s : NO_SHELF) {
            rich.refused(BAD, "show", s, 0);
            rich.refused(BAD, "show", s, -1);
        }
        for (int p : NO_PUPIL) {
            if (p != -1) {
                rich.refused(BAD, "show", INTS, p);
                rich.refused(BAD, "show", EMPTY, p);
            }
        }
        rich.refused(BAD, "show", PUPIL, -2);
        rich.taken(1, "show", 0, 0);
        rich.taken(1, "show", 7, 5);
        rich.taken(1, "show", PUPIL, -1);
        rich.taken(1, "show", EMPTY, -1);

        due.promise(8);
        for (int s : NO_SHELF) {
            rich.refused(BAD, "says", s, 0);
        }
        int[] noKind = {-1, 6, LEAST, GREATEST};
        for (int kind : noKind) {
            rich.refused(BAD, "says", PUPIL, kind);
            rich.refused(BAD, "says", INTS, kind);
            rich.refused(BAD, "says", EMPTY, kind);
        }
        rich.refused(OTHER, "says", INTS, 0);
        rich.refused(OTHER, "says", NO_ELEMENTS, 5);
        rich.refused(OTHER, "says", PUPIL, 1);
        rich.refused(OTHER, "says", PUPIL, 4);
        rich.refused(OTHER, "says", FREE_PUPIL, 5);
        rich.refused(NOTHING, "says", EMPTY, 0);
        rich.refused(NOTHING, "says", EMPTY, 5);
    }

    private static void pupils() {
        due.promise(9);
        int[][] bad = {{-1, 0, 0}, {6, 0, 0}, {0, -1, 0}, {0, 10, 0}, {0, 0, -1}, {0, 0, 2},
            {LEAST, 0, 0}, {GREATEST, 0, 0}, {0, LEAST, 0}, {0, GREATEST, 0}, {0, 0, LEAST}, {0, 0, GREATEST}};
        for (int[] b : bad) {
            rich.refused(BAD, "pupil", b[0], b[1], b[2]);
            full.refused(BAD, "pupil", b[0], b[1], b[2]);
        }
        full.refused(FULL, "pupil", 0, 0, 0);
        full.refused(FULL, "pupil", 5, 9, 1);
        rich.taken(6, "pupil", 0, 0, 0);
        rich.taken(6, "pupil", 5, 9, 1);

        due.promise(10);
        for (int p : NO_PUPIL) {
            rich.refused(BAD, "likes", p, 0, 1);
            rich.refused(BAD, "likes", p, 8, 0);
        }
        int[] noBit = {-1, 8, 32, LEAST, GREATEST};
        for (int bit : noBit) {
            rich.refused(BAD, "likes", 0, bit, 1);
            rich.refused(BAD, "likes", 0, bit, 0);
        }
        rich.taken(1, "likes", 0, 0, 1);
        rich.taken(0, "likes", 5, 7, 0);
    }

    private static void pairs() {
        due.promise(11);
        for (int p : NO_PUPIL) {
            rich.refused(BAD, "pair", p, 3);
            rich.refused(BAD, "pair", 2, p);
            rich.refused(BAD, "pair", p, 1);
            rich.refused(BAD, "pair", 3, p);
            rich.refused(BAD, "pair", 0, p);
        }
        rich.refused(STUCK, "pair", 3, 2);
        rich.refused(STUCK, "pair", 2, 2);
        rich.refused(STUCK, "pair", 3, 3);
        rich.refused(STUCK, "pair", 0, 3);
        rich.refused(STUCK, "pair", 2, 1);
        rich.refused(STUCK, "pair", 0, 1);
        rich.refused(STUCK, "pair", 4, 1);
        rich.taken(1, "pair", 2, 3);

        due.promise(12);
        for (int p : NO_PUPIL) {
            rich.refused(BAD, "part", p);
        }
        rich.refused(STUCK, "part", 2);
        rich.refused(STUCK, "part", 3);
        rich.taken(1, "part", 0);
        rich.taken(0, "part", 1);
    }

    private static void asks() {
        due.promise(13);
        int[][] bad = {{-1, 0}, {3, 0}, {LEAST, 0}, {GREATEST, 0}, {0, -1}, {0, 13}, {0, LEAST}, {0, GREATEST},
            {1, -1}, {1, 10}, {1, LEAST}, {1, GREATEST}, {2, -1}, {2, 2}, {2, LEAST}, {2, GREATEST}};
        for (int[] b : bad) {
            rich.refused(BAD, "ask", b[0], b[1]);
        }
        rich.taken(2, "ask", 0, 0);
        rich.taken(2, "ask", 0, 12);
        rich.taken(0, "ask", 1, 0);
        rich.taken(0, "ask", 1, 9);
        rich.taken(1, "ask", 2, 0);
        rich.taken(1, "ask", 2, 1);
    }

    private static void tape() {
        due.promise(14);
        int[] bad = {-1, 256, LEAST, GREATEST};
        for (int letter : bad) {
            rich.refused(BAD, "feed", letter);
            fedUp.refused(BAD, "feed", letter);
        }
        fedUp.refused(FULL, "feed", 0);
        fedUp.refused(FULL, "feed", 255);
        rich.taken(14, "feed", 0);
        rich.taken(14, "feed", 255);

        due.promise(15);
        fedUp.taken(250, "wipe");
        fresh.taken(0, "wipe");
        due.promise(16);
        fedUp.taken(1, "list");
    }

    /** The calls that ask of any pupils. */
    private static void onePupil() {
        int[] noWhat = {-1, 8, LEAST, GREATEST};
        for (int p : NO_PUPIL) {
            due.promise(17);
            rich.refused(BAD, "pupilOf", p, 0);
            due.promise(18);
            rich.refused(BAD, "common", p, 0);
            rich.refused(BAD, "common", 0, p);
            due.promise(26);
            rich.refused(BAD, "best", p);
            due.promise(35);
            rich.refused(BAD, "near", p, 0);
            due.promise(38);
            rich.refused(BAD, "asPair", p, 0, 0);
            rich.refused(BAD, "asPair", 0, p, 0);
        }
        due.promise(17);
        for (int what : noWhat) {
            rich.refused(BAD, "pupilOf", 0, what);
        }
        due.promise(26);
        new Standing(due, () -> Due.with("pupil 0 0 1;pupil 0 0 1")).refused(STUCK, "best", 0);
        new Standing(due, () -> Due.with("pupil 0 0 0")).refused(STUCK, "best", 0);
        due.promise(35);
        int[] noCommon = {-1, 9, LEAST, GREATEST};
        for (int v : noCommon) {
            rich.refused(BAD, "near", 0, v);
        }
        due.promise(38);
        rich.refused(BAD, "asPair", 0, 0, 0);
        rich.refused(BAD, "asPair", 0, 2, 0);
        rich.refused(BAD, "asPair", 1, 3, 1);
        rich.refused(BAD, "asPair", 0, 1, -1);
        rich.refused(BAD, "asPair", 0, 1, 2);
        rich.refused(BAD, "asPair", 0, 1, LEAST);
        rich.refused(BAD, "asPair", 0, 1, GREATEST);
    }

    /** A call that asks of a pair: its numbers behind the pupil's that may not be, and some that may. */
    private static void ofPair(String name, long[] fine, long[][] bad) {
        for (int p : NO_PUPIL) {
            rich.refused(BAD, name, behind(p, fine));
        }
        rich.refused(STUCK, name, behind(2, fine));
        rich.refused(STUCK, name, behind(3, fine));
        for (long[] b : bad) {
            rich.refused(BAD, name, behind(0, b));
            // BAD comes ahead of STUCK
            rich.refused(BAD, name, behind(2, b));
        }
    }

    private static long[] behind(long pupil, long[] others) {
        long[] given = new long[others.length + 1];
        given[0] = pupil;
        System.arraycopy(others, 0, given, 1, others.length);
        return given;
    }

    private static long[] one(long v) {
        return new long[] {v};
    }

    private static void onePair() {
        due.promise(19);
        ofPair("will", one(0), new long[][] {one(-1), one(2), one(LEAST), one(GREATEST)});
        ofPair("will", one(1), new long[][] {});
        due.promise(20);
        ofPair("over", new long[0], new long[][] {});
        due.promise(21);
        ofPair("still", one(0), new long[][] {one(-1), one(13), one(LEAST), one(GREATEST)});
        ofPair("still", one(12), new long[][] {});
        due.promise(22);
        ofPair("again", one(0), new long[][] {one(-1), one(1000001), one(LEAST), one(GREATEST)});
        ofPair("again", one(1000000), new long[][] {});
        due.promise(23);
        ofPair("lost", one(0), new long[][] {one(-1), one(41), one(LEAST), one(GREATEST)});
        ofPair("lost", one(40), new long[][] {});
        due.promise(36);
        ofPair("lasts", new long[0], new long[][] {});
        due.promise(37);
        ofPair("wish", new long[0], new long[][] {});
        due.promise(40);
        ofPair("bears", new long[] {0, 0}, new long[][] {{-1, 0}, {13, 0}, {0, -1}, {0, 1000001},
            {LEAST, 0}, {GREATEST, 0}, {0, LEAST}, {0, GREATEST}});
        ofPair("bears", new long[] {12, 1000000}, new long[][] {});
        due.promise(41);
        ofPair("drift", one(0), new long[][] {one(-1), one(41), one(LEAST), one(GREATEST)});
        ofPair("drift", one(40), new long[][] {});
    }

    private static void wholeSchools() {
        due.promise(24);
        int[] noRow = {-2, 1, 6, LEAST, GREATEST};
        for (int i : noRow) {
            rich.refused(BAD, "paired", i);
        }
        full.refused(BAD, "paired", 1);
        fresh.refused(BAD, "paired", 0);
        due.promise(27);
        int[] noWhat = {-1, 3, LEAST, GREATEST};
        for (int what : noWhat) {
            rich.refused(BAD, "same", what);
            due.promise(31);
            rich.refused(BAD, "first", 0, what);
            fresh.refused(BAD, "first", 1, what);
            due.promise(27);
        }
        due.promise(31);
        int[] noSchool = {-1, 2, LEAST, GREATEST};
        for (int school : noSchool) {
            rich.refused(BAD, "first", school, 0);
            fresh.refused(BAD, "first", school, 0);
        }
        for (int what = 0; what < 3; what++) {
            fresh.refused(STUCK, "first", 0, what);
            new Standing(due, () -> Due.with("pupil 0 0 0")).refused(STUCK, "first", 1, what);
            new Standing(due, () -> Due.with("pupil 0 0 1")).refused(STUCK, "first", 0, what);
        }
        Standing noPairs = new Standing(due, () -> Due.with("pupil 0 0 0;pupil 0 0 1"));
        due.promise(32);
        fresh.refused(STUCK, "mean");
        noPairs.refused(STUCK, "mean");
        due.promise(33);
        int[] noWeeks = {-1, 13, LEAST, GREATEST};
        for (int n : noWeeks) {
            rich.refused(BAD, "weakest", n);
            noPairs.refused(BAD, "weakest", n);
        }
        noPairs.refused(STUCK, "weakest", 0);
        fresh.refused(STUCK, "weakest", 12);
        int[] noCommon = {-1, 9, LEAST, GREATEST};
        for (int n : noCommon) {
            due.promise(34);
            rich.refused(BAD, "with", n);
            due.promise(39);
            rich.refused(BAD, "wanted", n);
        }
        due.promise(43);
        fresh.refused(STUCK, "keen");
        noPairs.refused(STUCK, "keen");
    }

    private static void toldWeeks() {
        due.promise(45);
        for (int s : NO_SHELF) {
            rich.refused(BAD, "meant", s, 0, 0);
            rich.refused(BAD, "meant", s, 0, 2);
        }
        int[] noMany = {-1, 41, LEAST, GREATEST};
        for (int n : noMany) {
            rich.refused(BAD, "meant", BYTES, n, 0);
            rich.refused(BAD, "meant", PUPIL, n, 0);
            rich.refused(BAD, "meant", EMPTY, n, 0);
        }
        for (int p : NO_PUPIL) {
            rich.refused(BAD, "meant", BYTES, 0, p);
            rich.refused(BAD, "meant", PUPIL, 0, p);
            rich.refused(BAD, "meant", EMPTY, 0, p);
        }
        rich.refused(OTHER, "meant", PUPIL, 0, 0);
        rich.refused(OTHER, "meant", PUPIL, 40, 2);
        rich.refused(NOTHING, "meant", EMPTY, 0, 0);
        rich.refused(NOTHING, "meant", EMPTY, 40, 2);
        rich.refused(BAD, "meant", BYTES, 4, 0);
        rich.refused(BAD, "meant", NO_ELEMENTS, 1, 0);
        // fewer elements come ahead of whatever is STUCK
        rich.refused(BAD, "meant", BYTES, 4, 2);
        rich.refused(BAD, "meant", INTS, 6, 1);
        rich.refused(STUCK, "meant", BYTES, 3, 2);
        rich.refused(STUCK, "meant", BYTES, 0, 3);
        rich.refused(STUCK, "meant", BYTES, 3, 1);
        rich.refused(STUCK, "meant", BYTES, 0, 4);
        rich.refused(STUCK, "meant", INTS, 1, 0);
        rich.refused(STUCK, "meant", INTS, 5, 0);
        rich.refused(STUCK, "meant", INTS, 1, 2);
        rich.asked(63, "meant", BYTES, 0, 0);
        rich.asked(63, "meant", NO_ELEMENTS, 0, 5);
    }

    private static void unfitYears(String name, long... rest) {
        for (int s : NO_SHELF) {
            rich.refused(BAD, name, year(s, 0, rest));
        }
        int[] noMany = {-1, 41, LEAST, GREATEST};
        for (int n : noMany) {
            rich.refused(BAD, name, year(INTS, n, rest));
            rich.refused(BAD, name, year(PUPIL, n, rest));
            rich.refused(BAD, name, year(EMPTY, n, rest));
        }
        rich.refused(OTHER, name, year(PUPIL, 0, rest));
        rich.refused(OTHER, name, year(FREE_PUPIL, 40, rest));
        rich.refused(NOTHING, name, year(EMPTY, 0, rest));
        rich.refused(NOTHING, name, year(EMPTY, 40, rest));
        rich.refused(BAD, name, year(INTS, 6, rest));
        rich.refused(BAD, name, year(INTS, 40, rest));
        rich.refused(BAD, name, year(NO_ELEMENTS, 1, rest));
    }

    private static long[] year(int s, int n, long[] rest) {
        return behind(s, behind(n, rest));
    }

    private static void toldYears() {
        due.promise(46);
        unfitYears("judge");
        rich.asked(1, "judge", INTS, 5);
        rich.asked(-1, "judge", INTS, 0);
        due.promise(47);
        unfitYears("behind", 0);
        unfitYears("behind", 2);
        int[] noWhat = {-1, 3, LEAST, GREATEST};
        for (int what : noWhat) {
            rich.refused(BAD, "behind", INTS, 0, what);
            rich.refused(BAD, "behind", INTS, 5, what);
            rich.refused(BAD, "behind", PUPIL, 0, what);
            rich.refused(BAD, "behind", EMPTY, 0, what);
        }
        // 300 may be, 301 can't: 1 doesn't OWE
        for (int what = 0; what < 3; what++) {
            rich.refused(STUCK, "behind", INTS, 2, what);
            rich.refused(STUCK, "behind", INTS, 5, what);
        }
        rich.asked(31, "behind", INTS, 1, 0);
        due.promise(48);
        unfitYears("done");
        rich.refused(STUCK, "done", INTS, 2);
        rich.refused(STUCK, "done", INTS, 5);
        rich.refused(STUCK, "done", BYTES, 1);
        rich.taken(31, "done", INTS, 1);
    }

    private static void inTruth() {
        due.promise(49);
        int[] noWeeks = {0, 100, -1, LEAST, GREATEST};
        for (int n : noWeeks) {
            rich.refused(BAD, "weeks", n);
        }
        due.promise(53);
        fresh.refused(STUCK, "back");
        full.refused(STUCK, "back");
        rich.taken(1, "back");
    }

    /** Each refusal is counted by its own number, and others aren't. */
    private static void counted() {
        due.promise(54);
        DearPenFriend x = Standing.full();
        for (int i = 0; i < 7; i++) {
            x.part(12);
        }
        x.show(0, 0);
        for (int i = 0; i < 5; i++) {
            x.set(0, 0, 0);
        }
        for (int i = 0; i < 4; i++) {
            x.set(1, 0, 0);
        }
        for (int i = 0; i < 3; i++) {
            x.back();
        }
        for (int i = 0; i < 2; i++) {
            x.pupil(0, 0, 0);
        }
        x.list();
        int[] counts = {8, 5, 4, 3, 2};
        for (int i = 0; i < counts.length; i++) {
            due.is("status(" + (12 + i) + ")", x.status(12 + i), counts[i]);
        }
    }
}
