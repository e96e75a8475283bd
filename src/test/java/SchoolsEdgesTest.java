/** The boundary cases that "THE SCHOOLS" names, sentence by sentence, and those of promises 1 to 18; lists have ListEdgesTest. */
public final class SchoolsEdgesTest {
    private static final Due due = new Due("SchoolsEdgesTest");
    private static final int KINDS = 6;

    public static void main(String[] args) {
        twelvePupilsAtMost();
        kindsAndThoseUnder();
        aZeroToNine();
        likesNoneAtFirst();
        friendNoneAtFirst();
        owesSilentLengthAtFirst();
        silentNinetyNineAtMost();
        lengthNinetyNineAtMost();
        lossToilFridayWeekAtFirst();
        aNewObject();
        fiveHundredAndTwelveCalls();
        rowOfElements();
        elementsKeepTheirLowestBits();
        elementNone();
        copyAsTheyWere();
        holdsByNumber();
        showOverWhatIsThere();
        saysByHisOwnKind();
        pairAsTold();
        partOfEither();
        tapeOfBytes();
        due.end();
    }

    /** "PUPILS have numbers, 0 on, 12 at most." */
    private static void twelvePupilsAtMost() {
        due.promise(9);
        DearPenFriend x = new DearPenFriend();
        for (int i = 0; i < 12; i++) {
            due.is("pupil " + i, x.pupil(0, 0, i % 2), i);
            due.is("status(0)", x.status(0), i + 1);
            due.is("pupilOf(" + i + ", 2)", x.pupilOf(i, 2), i % 2);
            due.is("pupilOf(" + (i + 1) + ", 2), not yet", x.pupilOf(i + 1, 2), -2);
        }
        due.is("a thirteenth", x.pupil(0, 0, 0), -6);
        due.is("status(0)", x.status(0), 12);
        due.is("a fourteenth", x.pupil(0, 0, 1), -6);
        due.is("status(16)", x.status(16), 2);
    }

    /** "KIND: 0 PUPIL; 1 LONG, 2 ASHAMED, 5 COPIER, each under PUPIL; 3 WINDY, under LONG; 4 PROUD, under ASHAMED." */
    private static void kindsAndThoseUnder() {
        due.promise(8);
        String[] taken = {"0", "01", "02", "013", "024", "05"};
        DearPenFriend x = new DearPenFriend();
        for (int kind = 0; kind < KINDS; kind++) {
            x.pupil(kind, 0, 0);
            x.show(kind, kind);
        }
        int refused = 0;
        for (int kind = 0; kind < KINDS; kind++) {
            for (int as = 0; as < KINDS; as++) {
                boolean fits = taken[kind].indexOf('0' + as) >= 0;
                due.is("kind " + kind + " says as " + as, x.says(kind, as), fits ? 0 : -3);
                refused += fits ? 0 : 1;
                due.is("status(13)", x.status(13), refused);
            }
        }
    }

    /** "a (0 to 9), SCHOOL (0, 1)": the least and the greatest are kept as they are. */
    private static void aZeroToNine() {
        due.promise(9);
        DearPenFriend x = new DearPenFriend();
        int[][] pupils = {{0, 0, 0}, {5, 9, 1}, {3, 9, 0}, {4, 0, 1}};
        for (int i = 0; i < pupils.length; i++) {
            x.pupil(pupils[i][0], pupils[i][1], pupils[i][2]);
            for (int what = 0; what < 3; what++) {
                due.is("pupilOf(" + i + ", " + what + ")", x.pupilOf(i, what), pupils[i][what]);
            }
        }
    }

    /** "LIKES (bits 0 to 7: interests; none at first)"; "whether he did (1, 0)". */
    private static void likesNoneAtFirst() {
        due.promise(10);
        DearPenFriend x = new DearPenFriend();
        x.pupil(0, 0, 0);
        x.pupil(0, 0, 0);
        due.is("none at first", x.pupilOf(0, 3), 0);
        for (int bit = 0; bit < 8; bit++) {
            due.is("not liked yet, he likes not: " + bit, x.likes(0, bit, false), 0);
            due.is("likes " + bit, x.likes(0, bit, true), 0);
            due.is("likes " + bit + " already", x.likes(0, bit, true), 1);
            due.is("bits up to " + bit, x.pupilOf(0, 3), (2 << bit) - 1);
        }
        for (int bit = 0; bit < 8; bit++) {
            due.is("likes no more " + bit, x.likes(0, bit, false), 1);
            due.is("bits above " + bit, x.pupilOf(0, 3), 255 - ((2 << bit) - 1));
        }
        due.is("the other likes none still", x.pupilOf(1, 3), 0);
    }

    /** "FRIEND (one of the other SCHOOL, or none; none at first; whose FRIEND one is is his)". */
    private static void friendNoneAtFirst() {
        due.promise(11);
        DearPenFriend x = Due.with("pupil 0 0 1;pupil 0 0 0;pupil 0 0 1;pupil 0 0 0");
        for (int p = 0; p < 4; p++) {
            due.is("friend of " + p + " at first", x.pupilOf(p, 4), -1);
        }
        due.is("pair(1, 0)", x.pair(1, 0), 0);
        due.is("friend of 1", x.pupilOf(1, 4), 0);
        due.is("friend of 0", x.pupilOf(0, 4), 1);
        due.is("friend of 2", x.pupilOf(2, 4), -1);
        due.is("friend of 3", x.pupilOf(3, 4), -1);
        // one isn't of SCHOOL 0; the other isn't of 1; one has a FRIEND; the other has
        due.is("pair(2, 2)", x.pair(2, 2), -5);
        due.is("pair(2, 0)", x.pair(2, 0), -5);
        due.is("pair(3, 3)", x.pair(3, 3), -5);
        due.is("pair(3, 1)", x.pair(3, 1), -5);
        due.is("pair(1, 2)", x.pair(1, 2), -5);
        due.is("pair(3, 0)", x.pair(3, 0), -5);
        due.is("pair(3, 2)", x.pair(3, 2), 0);
        due.is("status(1)", x.status(1), 2);
        due.is("status(15)", x.status(15), 6);
    }

    /** "OWES (.. 0, at first, not), SILENT (.. 0 at first), LENGTH (.. 0 at first: none yet)". */
    private static void owesSilentLengthAtFirst() {
        due.promise(9);
        DearPenFriend x = new DearPenFriend();
        for (int i = 0; i < 12; i++) {
            x.pupil(i % 6, 9 - i % 10, i % 2);
            for (int what = 5; what < 8; what++) {
                due.is("pupilOf(" + i + ", " + what + ")", x.pupilOf(i, what), 0);
            }
        }
        due.is("owing()", x.owing(), 0);
        due.is("status(6)", x.status(6), 0);
    }

    /** "SILENT (weeks he has owed it; 0 to 99)"; "SILENT is 1 more (99 at most)": told, and in truth. */
    private static void silentNinetyNineAtMost() {
        due.promise(48);
        String never = "pupil 4 0 0;pupil 0 0 1;pair 0 1";
        DearPenFriend x = Due.with(never);
        Due.tell(x, 0, 300, 300, 300, 300, 300, 300, 300, 300, 300, 300, 300, 300, 300, 300, 300, 300, 300, 300, 300, 300);
        for (int i = 0; i < 4; i++) {
            x.done(0, 20);
        }
        x.done(0, 18);
        due.is("silent, 98 told", x.pupilOf(0, 6), 98);
        x.done(0, 1);
        due.is("silent, 99 told", x.pupilOf(0, 6), 99);
        x.done(0, 1);
        due.is("silent, 100 told", x.pupilOf(0, 6), 99);
        due.is("behind(0, 20, 1)", x.behind(0, 20, 1), 99);
        due.promise(49);
        x = Due.with(never);
        x.weeks(98);
        due.is("silent for 98", x.pupilOf(0, 6), 98);
        due.is("behind one week more", behindOne(x), 99);
        x.weeks(1);
        due.is("silent for 99", x.pupilOf(0, 6), 99);
        due.is("behind one week more", behindOne(x), 99);
        x.weeks(1);
        due.is("silent for 100", x.pupilOf(0, 6), 99);
        due.is("first(0, 1)", x.first(0, 1), 0);
    }

    private static int behindOne(DearPenFriend x) {
        Due.tell(x, 0, 300);
        return x.behind(0, 1, 1);
    }

    /** "LENGTH (lines of his latest letter, 0 to 99)"; "99 at most". */
    private static void lengthNinetyNineAtMost() {
        due.promise(48);
        // LONG 0 and LONG 1, 9 each: 28, 56, 84, 112
        DearPenFriend x = Due.with("pupil 1 9 0;pupil 1 9 1;pair 0 1");
        int[] lengths = {28, 56, 84, 99, 99};
        for (int i = 0; i < lengths.length; i++) {
            Due.live(x, 100 + i % 2);
            due.is("length of letter " + i, x.pupilOf(i % 2, 7), lengths[i]);
        }
        due.is("all lengths", x.status(6), 198);
    }

    /** "LOSS (.. 1 at first). TOIL (.. 1 at first). FRIDAY (.. 0 at first). WEEK (0 at first)." */
    private static void lossToilFridayWeekAtFirst() {
        due.promise(13);
        DearPenFriend x = new DearPenFriend();
        due.is("LOSS at first", x.status(2), 1);
        due.is("TOIL at first", x.status(3), 1);
        due.is("FRIDAY at first", x.status(4), 0);
        due.is("WEEK at first", x.status(5), 0);
        due.is("SEED at first", x.status(8), 1);
        int[] most = {12, 9, 1};
        int[] before = {1, 1, 0};
        for (int what = 0; what < 3; what++) {
            for (int v = 0; v <= most[what]; v++) {
                due.is("ask(" + what + ", " + v + ")", x.ask(what, v), before[what]);
                due.is("status(" + (2 + what) + ")", x.status(2 + what), v);
                before[what] = v;
            }
        }
        due.is("SEED is asked elsewhere", x.ask(3, 0), -2);
    }

    /** "No PUPILS; SHELVES hold NOTHING; THE TAPE is empty." */
    private static void aNewObject() {
        due.promise(1);
        DearPenFriend x = new DearPenFriend();
        due.is("pupils", x.status(0), 0);
        due.is("pupilOf(0, 0)", x.pupilOf(0, 0), -2);
        due.is("shelves that hold something", x.status(9), 0);
        for (int s = 0; s < 8; s++) {
            due.is("holds(" + s + ")", x.holds(s), -1);
            due.is("element(" + s + ", 0)", x.element(s, 0), 0);
        }
        due.is("the tape's size", x.status(7), 0);
        due.is("wipe()", x.wipe(), 0);
        due.is("list()", x.list(), -20);
        // a second object has nothing of the first
        x.pupil(0, 0, 0);
        x.show(0, 0);
        x.feed(1);
        x.image();
        DearPenFriend y = new DearPenFriend();
        due.is("another's pupils", y.status(0), 0);
        due.is("another's shelves", y.status(9), 0);
        due.is("another's tape", y.status(7), 0);
        due.is("another's image", y.back(), -5);
        due.is("another's refusals", y.status(12), 0);
    }

    /** "An object is used for at most 512 calls": the last of them answers as the first. */
    private static void fiveHundredAndTwelveCalls() {
        due.promise(54);
        DearPenFriend x = new DearPenFriend();
        for (int i = 1; i < 512; i++) {
            x.part(0);
        }
        due.is("the 512th call", x.status(12), 511);
    }

    /** "A ROW has .. 0 to 40 elements (0, or not so, at first)"; "SHELF s holds a new ROW". */
    private static void rowOfElements() {
        due.promise(2);
        DearPenFriend x = new DearPenFriend();
        for (int sort = 0; sort < 5; sort++) {
            due.is("row of none", x.row(sort, sort, 0), 1);
            due.is("holds(" + sort + ")", x.holds(sort), sort);
            due.is("set in a row of none", x.set(sort, 0, 1), -2);
            due.is("row of 40", x.row(sort, sort, 40), 1);
            due.is("element(" + sort + ", 0) at first", x.element(sort, 0), 0);
            due.is("element(" + sort + ", 39) at first", x.element(sort, 39), 0);
            due.is("set the last", x.set(sort, 39, 1), 1);
            due.is("set behind the last", x.set(sort, 40, 1), -2);
            due.is("element(" + sort + ", 39)", x.element(sort, 39), 1);
            due.is("row of 40 anew", x.row(sort, sort, 40), 1);
            due.is("element(" + sort + ", 39), anew", x.element(sort, 39), 0);
            x.set(sort, 5, 1);
            due.is("row of 5", x.row(sort, sort, 5), 1);
            due.is("set behind the fifth", x.set(sort, 5, 1), -2);
            due.is("row of 6", x.row(sort, sort, 6), 1);
            due.is("element(" + sort + ", 5), anew", x.element(sort, 5), 0);
        }
        due.is("status(9)", x.status(9), 5);
    }

    /** "what is put in keeps its lowest bits (of booleans: whether it is not 0); told they are numbers (1, 0)". */
    private static void elementsKeepTheirLowestBits() {
        due.promise(3);
        long intMost = Integer.MAX_VALUE;
        long[][] kept = {
            {0, 127, 127}, {0, 128, -128}, {0, -128, -128}, {0, -129, 127}, {0, 255, -1}, {0, 256, 0}, {0, Long.MIN_VALUE, 0}, {0, Long.MAX_VALUE, -1},
            {1, 32767, 32767}, {1, 32768, -32768}, {1, -32768, -32768}, {1, -32769, 32767}, {1, 65535, -1}, {1, 65536, 0}, {1, Long.MIN_VALUE, 0},
            {2, intMost, intMost}, {2, intMost + 1, -intMost - 1}, {2, -intMost - 1, -intMost - 1}, {2, -intMost - 2, intMost},
            {2, 1L << 32, 0}, {2, (1L << 32) - 1, -1}, {2, Long.MAX_VALUE, -1},
            {3, Long.MAX_VALUE, Long.MAX_VALUE}, {3, Long.MIN_VALUE, Long.MIN_VALUE}, {3, 1L << 32, 1L << 32}, {3, -1, -1},
            {4, 0, 0}, {4, 1, 1}, {4, -1, 1}, {4, 2, 1}, {4, 256, 1}, {4, 1L << 32, 1}, {4, Long.MIN_VALUE, 1}, {4, Long.MAX_VALUE, 1}};
        DearPenFriend x = new DearPenFriend();
        for (int sort = 0; sort < 5; sort++) {
            x.row(sort, sort, 1);
        }
        for (long[] k : kept) {
            due.is("set(" + k[0] + ", 0, " + k[1] + ")", x.set((int) k[0], 0, k[1]), 1);
            due.is("element of " + k[1] + " in a row of sort " + k[0], x.element((int) k[0], 0), k[2]);
        }
        due.is("a boolean becomes 0 again", x.set(4, 0, 0), 1);
        due.is("element(4, 0)", x.element(4, 0), 0);
    }

    /** "0: none, no ROW (nothing is refused)." */
    private static void elementNone() {
        due.promise(5);
        DearPenFriend x = Due.with("pupil 0 0 0");
        x.row(0, 3, 2);
        x.set(0, 0, 8);
        x.set(0, 1, 9);
        due.is("the first", x.element(0, 0), 8);
        due.is("the last", x.element(0, 1), 9);
        due.is("ahead of the first", x.element(0, -1), 0);
        due.is("behind the last", x.element(0, 2), 0);
        x.show(0, 0);
        due.is("of a pupil", x.element(0, 0), 0);
        x.row(0, 3, 1);
        due.is("of a new row", x.element(0, 0), 0);
        x.set(0, 0, 8);
        x.show(0, -1);
        due.is("of nothing", x.element(0, 0), 0);
        due.is("no such shelf, below", x.element(-1, 0), 0);
        due.is("no such shelf, above", x.element(8, 0), 0);
        due.is("refusals", Due.refusals(x), 0);
    }

    private static DearPenFriend countingRow() {
        DearPenFriend x = new DearPenFriend();
        x.row(0, 3, 40);
        for (int i = 0; i < 40; i++) {
            x.set(0, i, 1000 + i);
        }
        return x;
    }

    /** "n elements of the ROW in SHELF p from place i on come to places j on of that in q (as they were): n." */
    private static void copyAsTheyWere() {
        due.promise(4);
        DearPenFriend x = countingRow();
        due.is("all but the last, one up", x.copy(0, 0, 0, 1, 39), 39);
        for (int i = 0; i < 40; i++) {
            due.is("one up: " + i, x.element(0, i), i == 0 ? 1000 : 999 + i);
        }
        x = countingRow();
        due.is("all but the first, one down", x.copy(0, 0, 1, 0, 39), 39);
        for (int i = 0; i < 40; i++) {
            due.is("one down: " + i, x.element(0, i), i == 39 ? 1039 : 1001 + i);
        }
        x = countingRow();
        due.is("all on themselves", x.copy(0, 0, 0, 0, 40), 40);
        due.is("element(0, 39)", x.element(0, 39), 1039);
        due.is("none", x.copy(0, 0, 3, 7, 0), 0);
        due.is("element(0, 7)", x.element(0, 7), 1007);
        x.row(1, 3, 40);
        due.is("all to another row", x.copy(0, 1, 0, 0, 40), 40);
        due.is("its first", x.element(1, 0), 1000);
        due.is("its last", x.element(1, 39), 1039);
        due.is("what it came from stays", x.element(0, 0), 1000);
        due.is("one too many", x.copy(0, 1, 1, 0, 40), -2);
        due.is("one too many there", x.copy(0, 1, 0, 1, 40), -2);
        x.row(2, 3, 2);
        due.is("to its last place", x.copy(0, 2, 38, 1, 1), 1);
        due.is("element(2, 0)", x.element(2, 0), 0);
        due.is("element(2, 1)", x.element(2, 1), 1038);
        due.is("from its last place", x.copy(2, 0, 1, 39, 1), 1);
        due.is("element(0, 39)", x.element(0, 39), 1038);
    }

    /** "NONE NOTHING, no SHELF; 0 to 4 a ROW by its SORT; 10 and the number of a PUPIL." */
    private static void holdsByNumber() {
        due.promise(6);
        DearPenFriend x = new DearPenFriend();
        for (int i = 0; i < 12; i++) {
            x.pupil(0, 0, 0);
            x.show(7, i);
            due.is("holds(7) of " + i, x.holds(7), 10 + i);
        }
        for (int sort = 0; sort < 5; sort++) {
            x.row(0, sort, 1);
            due.is("holds(0) of sort " + sort, x.holds(0), sort);
        }
        due.is("holds(6)", x.holds(6), -1);
        due.is("holds(8)", x.holds(8), -1);
        due.is("holds(-1)", x.holds(-1), -1);
        due.is("status(9)", x.status(9), 2);
    }

    /** "SHELF s holds a PUPIL, or NOTHING (pupil NONE): 1." */
    private static void showOverWhatIsThere() {
        due.promise(7);
        DearPenFriend x = Due.with("pupil 1 0 0;pupil 2 0 1");
        due.is("nothing over nothing", x.show(3, -1), 1);
        due.is("a pupil over nothing", x.show(3, 1), 1);
        due.is("another over a pupil", x.show(3, 0), 1);
        due.is("holds(3)", x.holds(3), 10);
        due.is("the same on two shelves", x.show(4, 0), 1);
        due.is("holds(4)", x.holds(4), 10);
        due.is("status(9)", x.status(9), 2);
        due.is("a row over a pupil", x.row(3, 0, 1), 1);
        due.is("holds(3)", x.holds(3), 0);
        due.is("a pupil over a row", x.show(3, 1), 1);
        due.is("no row any more", x.set(3, 0, 1), -3);
        due.is("nothing over a pupil", x.show(3, -1), 1);
        due.is("holds(3)", x.holds(3), -1);
        due.is("status(9)", x.status(9), 1);
    }

    /** "PUPIL his LIKES; LONG, WINDY, COPIER LINES he would write now (0: no FRIEND); ASHAMED, PROUD his WILL (0: no FRIEND), all by his own KIND." */
    private static void saysByHisOwnKind() {
        due.promise(8);
        // LINES by kinds with a 2; ASHAMED and PROUD have WILL 4 less 1
        int[] lines = {7, 14, 7, 19, 7, 1};
        for (int kind = 0; kind < KINDS; kind++) {
            DearPenFriend x = Due.with("pupil " + kind + " 2 0;pupil 0 0 1;likes 0 7");
            x.show(0, 0);
            int[] over = {0, kind == 3 ? 1 : kind == 4 ? 2 : kind, kind};
            due.is("as a PUPIL", x.says(0, over[0]), 128);
            for (int i = 1; i < 3; i++) {
                if (over[i] != 0) {
                    due.is("kind " + kind + " as " + over[i] + " without FRIEND", x.says(0, over[i]), 0);
                }
            }
            x.pair(0, 1);
            for (int i = 1; i < 3; i++) {
                boolean ofWill = over[i] == 2 || over[i] == 4;
                if (over[i] != 0) {
                    due.is("kind " + kind + " as " + over[i], x.says(0, over[i]), ofWill ? 3 : lines[kind]);
                }
            }
            due.is("refusals", Due.refusals(x), 0);
        }
    }

    /** "Two become a pair as told: COMMON": X OWES then, SILENT, LENGTH of both 0. */
    private static void pairAsTold() {
        due.promise(11);
        DearPenFriend x = Due.with("pupil 0 0 0;pupil 0 0 1");
        due.is("nothing in common", x.pair(0, 1), 0);
        Due.live(x, 300, 100, 301);
        x.part(0);
        for (int bit = 0; bit < 8; bit++) {
            x.likes(0, bit, true);
            x.likes(1, bit, true);
        }
        due.is("all in common", x.pair(0, 1), 8);
        int[][] then = {{1, 1, 0, 0}, {0, 0, 0, 0}};
        for (int p = 0; p < 2; p++) {
            for (int what = 4; what < 8; what++) {
                due.is("pupilOf(" + p + ", " + what + ")", x.pupilOf(p, what), then[p][what - 4]);
            }
        }
        due.is("owing()", x.owing(), 1);
    }

    /** "The pair of one is over (neither has a FRIEND nor OWES; SILENT, LENGTH 0): who it was." */
    private static void partOfEither() {
        due.promise(12);
        for (int one = 0; one < 2; one++) {
            DearPenFriend x = Due.with("pupil 0 0 0;pupil 0 0 1;likes 0 1;pair 0 1");
            Due.live(x, 100, 201, 301, 301);
            due.is("lengths ahead", x.status(6), 12);
            due.is("part(" + one + ")", x.part(one), 1 - one);
            for (int p = 0; p < 2; p++) {
                due.is("friend of " + p, x.pupilOf(p, 4), -1);
                due.is("owes " + p, x.pupilOf(p, 5), 0);
                due.is("silent " + p, x.pupilOf(p, 6), 0);
                due.is("length " + p, x.pupilOf(p, 7), 0);
                due.is("part(" + p + ") once more", x.part(p), -5);
            }
            due.is("likes stay", x.pupilOf(0, 3), 2);
            due.is("status(1)", x.status(1), 0);
            due.is("they may be a pair anew", x.pair(0, 1), 0);
        }
    }

    /** "THE TAPE (bytes, 250 at most)"; "one byte (0 to 255) behind it: its size"; "empty: its size ahead". */
    private static void tapeOfBytes() {
        due.promise(14);
        DearPenFriend x = new DearPenFriend();
        for (int i = 0; i < 250; i++) {
            due.is("feed(" + i + ")", x.feed(i), i + 1);
        }
        due.is("byte 251", x.feed(0), -6);
        due.is("no byte, and no room", x.feed(-1), -2);
        due.is("status(7)", x.status(7), 250);
        due.promise(15);
        due.is("wipe() of a full tape", x.wipe(), 250);
        due.is("status(7), wiped", x.status(7), 0);
        due.is("wipe() of an empty tape", x.wipe(), 0);
        due.promise(14);
        for (int i = 251; i < 256; i++) {
            due.is("feed(" + i + "), anew", x.feed(i), i - 250);
        }
        due.is("feed(256)", x.feed(256), -2);
        due.is("status(7)", x.status(7), 5);
    }
}
