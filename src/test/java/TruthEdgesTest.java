/** The boundary cases that "LETTERS" and "IN TRUTH" name of WEEKS, DRAWS and SEED, and those of promises 49 and 51 to 54. */
public final class TruthEdgesTest {
    private static final Due due = new Due("TruthEdgesTest");
    private static final int STEP = 1103515245, MORE = 12345;

    public static void main(String[] args) {
        weeksOneToNinetyNine();
        writesBelowWill();
        lostBelowLoss();
        noSecondDrawOfTheSilent();
        drawOfUpperSixteenBits();
        pairByPair();
        noPairNoDraw();
        whatAWeekDoes();
        seedOfAnyNumber();
        imageKeepsAll();
        backToNothing();
        backManyTimes();
        shelvesWhenBack();
        statusOfEach();
        due.end();
    }

    private static int next(int seed) {
        return seed * STEP + MORE;
    }

    /** The bits 16 to 31, told apart from the class by long numbers and division. */
    private static int draw(int seed) {
        long noSign = next(seed) < 0 ? next(seed) + 4294967296L : next(seed);
        return (int) (noSign / 65536 % 12);
    }

    /** The first seed from one on by which the next two draws are these; NONE of the second is any. */
    private static int seedFor(int first, int second, int from) {
        for (int seed = from; seed < from + 10000000; seed++) {
            if (draw(seed) == first && (second == -1 || draw(next(seed)) == second)) {
                return seed;
            }
        }
        throw new IllegalStateException("no such seed");
    }

    /** A pair of a PUPIL with this WILL, and LOSS. */
    private static DearPenFriend ofWill(int will, int loss) {
        DearPenFriend x = new DearPenFriend();
        x.pupil(0, 0, 0);
        x.pupil(0, 0, 1);
        int common = will <= 4 ? 0 : (will - 3) / 2;
        for (int bit = 0; bit < common; bit++) {
            x.likes(0, bit, true);
            x.likes(1, bit, true);
        }
        x.ask(1, 4 + 2 * common - will);
        x.ask(0, loss);
        x.pair(0, 1);
        due.is("the test's own WILL", x.will(0, 0), will);
        return x;
    }

    /** "n WEEKS (1 to 99) in truth". */
    private static void weeksOneToNinetyNine() {
        due.promise(49);
        DearPenFriend x = ofWill(12, 0);
        due.is("weeks(0)", x.weeks(0), -2);
        due.is("weeks(1)", x.weeks(1), 1);
        due.is("WEEK", x.status(5), 1);
        due.is("weeks(99)", x.weeks(99), 99);
        due.is("WEEK", x.status(5), 100);
        due.is("weeks(100)", x.weeks(100), -2);
        due.is("WEEK", x.status(5), 100);
        due.is("all come by turns: 0 OWES after 100", x.owing(), 1);
        for (int i = 0; i < 300; i++) {
            x.weeks(99);
        }
        due.is("WEEK is 1 more each", x.status(5), 100 + 300 * 99);
    }

    /** "a DRAW below 12: he who OWES writes, if it is below WILL": each DRAW at each WILL. */
    private static void writesBelowWill() {
        due.promise(49);
        for (int will = 0; will <= 12; will++) {
            for (int drawn = 0; drawn < 12; drawn++) {
                DearPenFriend x = ofWill(will, 0);
                x.seed(seedFor(drawn, -1, 1));
                boolean writes = drawn < will;
                String when = ", WILL " + will + ", DRAW " + drawn;
                due.is("weeks(1)" + when, x.weeks(1), writes ? 1 : 0);
                due.is("owing()" + when, x.owing(), writes ? 2 : 1);
                due.is("SILENT" + when, x.pupilOf(0, 6), writes ? 0 : 1);
                due.is("LENGTH" + when, x.pupilOf(0, 7), writes ? 5 : 0);
                due.is("WEEK" + when, x.status(5), 1);
            }
        }
    }

    /** "then a DRAW below 12: it is lost, if it is below LOSS": each DRAW at each LOSS. */
    private static void lostBelowLoss() {
        due.promise(49);
        for (int loss = 0; loss <= 12; loss++) {
            for (int drawn = 0; drawn < 12; drawn++) {
                DearPenFriend x = ofWill(11, loss);
                Due.live(x, 300);
                x.seed(seedFor(0, drawn, 1));
                boolean isLost = drawn < loss;
                String when = ", LOSS " + loss + ", DRAW " + drawn;
                due.is("weeks(1)" + when, x.weeks(1), isLost ? 0 : 1);
                due.is("owing()" + when, x.owing(), isLost ? 1 : 2);
                due.is("SILENT" + when, x.pupilOf(0, 6), 0);
                due.is("LENGTH" + when, x.pupilOf(0, 7), 5);
            }
        }
    }

    /** Who is silent has one DRAW, who writes two, whatever WILL and LOSS are. */
    private static void noSecondDrawOfTheSilent() {
        due.promise(49);
        for (int will = 0; will <= 12; will += 6) {
            for (int loss = 0; loss <= 12; loss += 6) {
                for (int drawn = 0; drawn < 12; drawn++) {
                    DearPenFriend x = ofWill(will, loss);
                    int seed = seedFor(drawn, -1, 1);
                    x.seed(seed);
                    x.weeks(1);
                    int one = next(seed);
                    due.is("SEED, WILL " + will + ", LOSS " + loss + ", DRAW " + drawn, x.status(8), drawn < will ? next(one) : one);
                }
            }
        }
    }

    /** "SEED .. becomes SEED times 1103515245, and 12345 (an int, wrapping); its upper 16 bits, no sign, modulo n". */
    private static void drawOfUpperSixteenBits() {
        due.promise(49);
        int[] seeds = {0, 1, -1, 2, Integer.MAX_VALUE, Integer.MIN_VALUE, 12345, -12345, 65535, 65536, 1 << 30, 0x7FFF0000, 0x12345678, -STEP};
        int below = 0;
        for (int seed : seeds) {
            for (int will = 1; will < 12; will++) {
                DearPenFriend x = ofWill(will, 0);
                x.seed(seed);
                due.is("weeks(1), SEED " + seed + ", WILL " + will, x.weeks(1), draw(seed) < will ? 1 : 0);
                int one = next(seed);
                due.is("SEED then", x.status(8), draw(seed) < will ? next(one) : one);
            }
            below += next(seed) < 0 ? 1 : 0;
        }
        due.is("some of them come below 0", below > 2 && below < seeds.length - 2 ? 1 : 0, 1);
        // 1 times 1103515245, and 12345, is 1103527590: 16838 times 65536 and more; 16838 is 2 more than 1403 times 12
        DearPenFriend x = ofWill(2, 0);
        due.is("SEED 1 draws 2: not at WILL 2", x.weeks(1), 0);
        due.is("SEED", x.status(8), 1103527590);
        x = ofWill(3, 0);
        due.is("SEED 1 draws 2: at WILL 3", x.weeks(1), 1);
    }

    /** "pair by pair, by the numbers of SCHOOL 0": not by those of SCHOOL 1, nor as they became pairs. */
    private static void pairByPair() {
        due.promise(49);
        // 1 with 3, 2 with 0; all WILL 3, none lost: 1 is silent by the first DRAW, 2 writes by the second
        int seed = seedFor(3, 2, 1);
        DearPenFriend x = Due.with("pupil 0 0 1;pupil 0 0 0;pupil 0 0 0;pupil 0 0 1;pair 2 0;pair 1 3;loss 0");
        x.seed(seed);
        due.is("weeks(1)", x.weeks(1), 1);
        due.is("1 is silent", x.pupilOf(1, 6), 1);
        due.is("2 has written", x.pupilOf(2, 7), 5);
        due.is("owing()", x.owing(), 2 + 1);
        due.is("three DRAWS", x.status(8), next(next(next(seed))));
        // when those of SCHOOL 1 OWE, it goes by SCHOOL 0 still
        x = Due.with("pupil 0 0 1;pupil 0 0 0;pupil 0 0 0;pupil 0 0 1;pair 2 0;pair 1 3;loss 0");
        Due.live(x, 101, 102);
        x.seed(seed);
        due.is("weeks(1)", x.weeks(1), 1);
        due.is("3 is silent", x.pupilOf(3, 6), 1);
        due.is("0 has written", x.pupilOf(0, 7), 7);
    }

    /** Without pairs a WEEK draws nothing; with WILL 0 it does. */
    private static void noPairNoDraw() {
        due.promise(49);
        DearPenFriend x = Due.with("pupil 0 0 0;pupil 0 0 1;pupil 4 0 0");
        due.is("weeks(9), no pair", x.weeks(9), 0);
        due.is("SEED", x.status(8), 1);
        due.is("WEEK", x.status(5), 9);
        x.pair(2, 1);
        due.is("weeks(1), WILL 0", x.weeks(1), 0);
        due.is("SEED", x.status(8), next(1));
    }

    /** "if he doesn't, SILENT is 1 more (99 at most). If he does, LENGTH is LINES, his SILENT 0 ..". */
    private static void whatAWeekDoes() {
        due.promise(49);
        DearPenFriend x = ofWill(0, 0);
        x.weeks(99);
        due.is("SILENT 99", x.pupilOf(0, 6), 99);
        x.weeks(1);
        due.is("SILENT 99 still", x.pupilOf(0, 6), 99);
        due.is("the other isn't silent", x.pupilOf(1, 6), 0);
        // ASHAMED, silent for 3 weeks, writes 5 less 3 lines; then isn't silent; all is lost
        x = Due.with("pupil 2 0 0;pupil 0 0 1;likes 0 0;likes 1 0;likes 0 1;likes 1 1;likes 0 2;likes 1 2;likes 0 3;likes 1 3;pair 0 1;loss 12");
        Due.live(x, 300, 300, 300);
        x.seed(seedFor(0, 0, 1));
        due.is("weeks(1), lost", x.weeks(1), 0);
        due.is("LENGTH", x.pupilOf(0, 7), 2);
        due.is("SILENT", x.pupilOf(0, 6), 0);
        due.is("OWES still", x.pupilOf(0, 5), 1);
        due.is("the other doesn't OWE", x.pupilOf(1, 5), 0);
        x.ask(0, 0);
        x.seed(seedFor(0, 0, 1));
        due.is("weeks(1), it comes", x.weeks(1), 1);
        due.is("LENGTH", x.pupilOf(0, 7), 5);
        due.is("OWES no more", x.pupilOf(0, 5), 0);
        due.is("the other OWES", x.pupilOf(1, 5), 1);
        due.is("the other's LENGTH", x.pupilOf(1, 7), 0);
    }

    /** "SEED becomes v: the one ahead": any int. */
    private static void seedOfAnyNumber() {
        due.promise(51);
        DearPenFriend x = new DearPenFriend();
        int[] seeds = {0, -1, -2, -6, Integer.MAX_VALUE, Integer.MIN_VALUE, 1};
        int ahead = 1;
        for (int seed : seeds) {
            due.is("seed(" + seed + ")", x.seed(seed), ahead);
            due.is("status(8)", x.status(8), seed);
            ahead = seed;
        }
        due.is("refusals", Due.refusals(x), 0);
    }

    /** "All is kept, but THE TAPE, SHELVES and REFUSALS: 1." */
    private static void imageKeepsAll() {
        due.promise(52);
        DearPenFriend x = Due.with("pupil 3 7 0;pupil 2 4 1;likes 0 2;likes 1 7;pair 0 1;loss 2;toil 0;friday 1");
        x.weeks(4);
        Due.live(x, x.pupilOf(0, 5) == 1 ? 300 : 301);
        int[] status = new int[10];
        int[] of = new int[16];
        due.is("image()", x.image(), 1);
        for (int what = 0; what < 10; what++) {
            status[what] = x.status(what);
        }
        for (int i = 0; i < 16; i++) {
            of[i] = x.pupilOf(i / 8, i % 8);
        }
        x.ask(0, 9);
        x.ask(1, 9);
        x.ask(2, 0);
        x.likes(0, 2, false);
        x.likes(1, 0, true);
        x.weeks(7);
        x.part(0);
        x.pupil(5, 5, 1);
        x.pair(0, 2);
        x.seed(99);
        x.feed(7);
        x.row(4, 3, 1);
        x.set(4, 0, 44);
        x.part(9);
        due.promise(53);
        due.is("back()", x.back(), 1);
        int[] kept = {0, 1, 2, 3, 4, 5, 6, 8};
        for (int what : kept) {
            due.is("status(" + what + ")", x.status(what), status[what]);
        }
        for (int i = 0; i < 16; i++) {
            due.is("pupilOf(" + i / 8 + ", " + i % 8 + ")", x.pupilOf(i / 8, i % 8), of[i]);
        }
        due.is("the third pupil", x.pupilOf(2, 0), -2);
        due.is("the tape's size stays", x.status(7), 1);
        due.is("the shelf stays", x.element(4, 0), 44);
        due.is("shelves that hold something", x.status(9), 1);
        due.is("refusals stay: part(9), pupilOf(2, 0)", x.status(12), 2);
    }

    /** "STUCK: nothing was." */
    private static void backToNothing() {
        due.promise(53);
        DearPenFriend x = Due.with("pupil 0 0 0");
        due.is("back(), nothing kept", x.back(), -5);
        due.is("the pupil stays", x.status(0), 1);
        due.is("status(15)", x.status(15), 1);
        due.is("image()", x.image(), 1);
        due.is("back()", x.back(), 1);
        x = new DearPenFriend();
        x.image();
        x.pupil(0, 0, 0);
        due.is("back() to nobody", x.back(), 1);
        due.is("pupils", x.status(0), 0);
        due.is("his number is free again", x.pupil(1, 2, 1), 0);
        due.is("he is new", x.pupilOf(0, 0), 1);
    }

    /** "All is again as it was kept": as often as it is asked, and as it was kept last. */
    private static void backManyTimes() {
        due.promise(53);
        DearPenFriend x = Due.with("pupil 0 0 0;pupil 0 0 1;pair 0 1");
        x.image();
        for (int i = 0; i < 3; i++) {
            Due.live(x, 300, 100);
            x.likes(0, i, true);
            due.is("back() " + i, x.back(), 1);
            due.is("LENGTH " + i, x.pupilOf(0, 7), 0);
            due.is("LIKES " + i, x.pupilOf(0, 3), 0);
            due.is("OWES " + i, x.pupilOf(0, 5), 1);
        }
        Due.live(x, 100);
        due.is("image() anew", x.image(), 1);
        Due.live(x, 101);
        due.is("back() to the last", x.back(), 1);
        due.is("LENGTHS", x.status(6), 5);
        due.is("1 OWES", x.owing(), 2);
        due.is("friend of 1", x.pupilOf(1, 4), 0);
    }

    /** "SHELVES with PUPILS hold those of the same numbers, or NOTHING". */
    private static void shelvesWhenBack() {
        due.promise(53);
        DearPenFriend x = Due.with("pupil 1 0 0;pupil 2 0 1");
        x.show(5, 0);
        x.image();
        x.pupil(3, 0, 0);
        x.pupil(4, 0, 0);
        x.likes(0, 3, true);
        for (int s = 0; s < 4; s++) {
            x.show(s, s);
        }
        x.row(4, 2, 1);
        x.show(5, -1);
        due.is("status(9)", x.status(9), 5);
        due.is("back()", x.back(), 1);
        int[] holds = {10, 11, -1, -1, 2, -1, -1, -1};
        for (int s = 0; s < 8; s++) {
            due.is("holds(" + s + ")", x.holds(s), holds[s]);
        }
        due.is("status(9)", x.status(9), 3);
        due.is("he who is there likes what he liked", x.says(0, 0), 0);
        due.is("nothing says nothing", x.says(2, 0), -4);
        x.pupil(5, 0, 0);
        due.is("a new one of that number isn't shown", x.holds(2), -1);
    }

    /** "PUPILS (0), pairs (1), .., SHELVES that hold something (9); 12 to 16: REFUSALS -2 to -6. NONE another what." */
    private static void statusOfEach() {
        due.promise(54);
        DearPenFriend x = new DearPenFriend();
        for (int i = 0; i < 12; i++) {
            x.pupil(0, 9, i % 2);
            due.is("status(0)", x.status(0), i + 1);
        }
        for (int i = 0; i < 6; i++) {
            due.is("status(1)", x.status(1), i);
            x.pair(2 * i, 2 * i + 1);
        }
        due.is("status(1), all", x.status(1), 6);
        for (int s = 0; s < 8; s++) {
            due.is("status(9)", x.status(9), s);
            if (s % 2 == 0) {
                x.row(s, 0, 0);
            } else {
                x.show(s, s);
            }
        }
        due.is("status(9), all", x.status(9), 8);
        Due.tell(x, 0, 100, 102, 104, 106, 108, 110);
        x.done(0, 6);
        due.is("status(6)", x.status(6), 84);
        x.part(0);
        due.is("status(6), one parted", x.status(6), 70);
        due.is("status(1), one parted", x.status(1), 5);
        x.show(0, -1);
        due.is("status(9), one less", x.status(9), 7);
        int[] none = {-1, 10, 11, 17, 18, Integer.MIN_VALUE, Integer.MAX_VALUE};
        for (int what : none) {
            due.is("status(" + what + ")", x.status(what), -1);
        }
        for (int what = 12; what <= 16; what++) {
            due.is("status(" + what + ")", x.status(what), 0);
        }
    }
}
