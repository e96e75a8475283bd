/** The boundary cases that "LETTERS" names, sentence by sentence, and those of promises 18 to 23, 36 to 38, 40 and 41. */
public final class LettersEdgesTest {
    private static final Due due = new Due("LettersEdgesTest");
    private static final int PUPIL = 0, LONG = 1, ASHAMED = 2, WINDY = 3, PROUD = 4, COPIER = 5, KINDS = 6;

    public static void main(String[] args) {
        commonOfTwo();
        willZeroAtLeast();
        willTwelveAtMost();
        aThirdOfSilent();
        aQuarterOfLength();
        ashamedLessSilentBesides();
        proudSilentForAWeeks();
        aThirdOfA();
        fridaysTwoLast();
        halfOfLength();
        oneLineAtLeast();
        ninetyNineLinesAtMost();
        tenLinesOnFriday();
        overAtWillZero();
        stillWeekByWeek();
        stillCut();
        stillAsItIs();
        againLeast();
        lostOrOver();
        lastsHowFew();
        wishOfSeveralTheFirst();
        asPairAsTheyAre();
        bearsTheGreatest();
        driftByTurns();
        due.end();
    }

    /** Two who are a pair and OWES is the first's: their kinds, their a, and how much is COMMON; TOIL 1. */
    private static DearPenFriend two(int kind, int a, int otherKind, int otherA, int common) {
        DearPenFriend x = new DearPenFriend();
        x.pupil(kind, a, 0);
        x.pupil(otherKind, otherA, 1);
        for (int bit = 0; bit < common; bit++) {
            x.likes(0, bit, true);
            x.likes(1, bit, true);
        }
        x.pair(0, 1);
        return x;
    }

    private static DearPenFriend one(int kind, int a, int common) {
        return two(kind, a, PUPIL, 0, common);
    }

    /** The one who OWES is silent for weeks more; told in one row, so that few calls are used. */
    private static void silence(DearPenFriend x, int pupil, int weeks) {
        for (int left = weeks; left > 0; left -= 40) {
            int n = Math.min(40, left);
            x.row(7, 2, n);
            for (int i = 0; i < n; i++) {
                x.set(7, i, 300 + pupil);
            }
            due.is("the test's own silence of " + n, x.done(7, n) >= 0 ? 1 : 0, 1);
        }
    }

    /** "COMMON of two: how many LIKES both have": none, all; what only one has is none. */
    private static void commonOfTwo() {
        due.promise(18);
        DearPenFriend x = Due.with("pupil 0 0 0;pupil 0 0 1");
        due.is("neither likes any", x.common(0, 1), 0);
        for (int bit = 0; bit < 8; bit++) {
            x.likes(0, bit, true);
            due.is("only one likes " + bit, x.common(0, 1), bit);
            x.likes(1, bit, true);
            due.is("both like " + bit, x.common(0, 1), bit + 1);
            due.is("the other way round", x.common(1, 0), bit + 1);
        }
        due.is("with himself", x.common(0, 0), 8);
        x.likes(1, 3, false);
        due.is("one likes one no more", x.common(0, 1), 7);
    }

    /** "0 at least": 4 less TOIL, 1, 0 and below. */
    private static void willZeroAtLeast() {
        due.promise(19);
        DearPenFriend x = one(PUPIL, 0, 0);
        int[] wills = {4, 3, 2, 1, 0, 0, 0, 0, 0, 0};
        for (int toil = 0; toil < 10; toil++) {
            x.ask(1, toil);
            due.is("will, TOIL " + toil, x.will(0, 0), wills[toil]);
            due.is("will of the other, TOIL " + toil, x.will(1, 0), wills[toil]);
        }
        // each kind, TOIL 9, nothing in common
        for (int kind = 0; kind < KINDS; kind++) {
            x = one(kind, 1, 0);
            x.ask(1, 9);
            due.is("will of kind " + kind + ", TOIL 9", x.will(0, 0), 0);
        }
    }

    /** "12 at most": 4 and 2 times COMMON, TOIL 0. */
    private static void willTwelveAtMost() {
        due.promise(19);
        int[] wills = {4, 6, 8, 10, 12, 12, 12, 12, 12};
        int[] more = {5, 7, 9, 11, 12, 12, 12, 12, 12};
        for (int common = 0; common < 9; common++) {
            DearPenFriend x = one(PUPIL, 0, common);
            x.ask(1, 0);
            due.is("will, COMMON " + common, x.will(0, 0), wills[common]);
            x = one(LONG, 0, common);
            x.ask(1, 0);
            due.is("will of LONG, COMMON " + common, x.will(0, 0), more[common]);
            x = one(COPIER, 3, common);
            x.ask(1, 0);
            due.is("will of COPIER, COMMON " + common, x.will(0, 0), more[common]);
        }
        // 4 and 16, less TOIL: what is above 12 takes nothing away
        DearPenFriend x = one(PUPIL, 0, 8);
        due.is("19: will", x.will(0, 0), 12);
        x.ask(1, 7);
        due.is("13: will", x.will(0, 0), 12);
        x.ask(1, 8);
        due.is("12: will", x.will(0, 0), 12);
        x.ask(1, 9);
        due.is("11: will", x.will(0, 0), 11);
    }

    /** "less a third of SILENT (cut)": 2 and 3, 5 and 6, 98 and 99. */
    private static void aThirdOfSilent() {
        due.promise(19);
        DearPenFriend x = one(PUPIL, 0, 2);
        int[] wills = {7, 7, 7, 6, 6, 6, 5, 5, 5, 4};
        for (int weeks = 0; weeks < wills.length; weeks++) {
            due.is("will, SILENT " + weeks, x.will(0, 0), wills[weeks]);
            silence(x, 0, 1);
        }
        x = one(LONG, 0, 0);
        silence(x, 0, 11);
        due.is("LONG, SILENT 11", x.will(0, 0), 1);
        silence(x, 0, 1);
        due.is("LONG, SILENT 12", x.will(0, 0), 0);
        x = one(COPIER, 9, 0);
        silence(x, 0, 17);
        due.is("COPIER with 9, SILENT 17", x.will(0, 0), 1);
        silence(x, 0, 1);
        due.is("COPIER with 9, SILENT 18", x.will(0, 0), 0);
    }

    /** "WINDY that of LONG, less a quarter of his LENGTH (cut)": of 15 3, of 17 and 19 4, of 21 5. */
    private static void aQuarterOfLength() {
        due.promise(19);
        int[] lengths = {15, 17, 19, 21};
        int[] wills = {9, 8, 8, 7};
        for (int a = 0; a < 4; a++) {
            DearPenFriend x = one(WINDY, a, 4);
            due.is("WINDY, no letter yet", x.will(0, 0), 12);
            Due.live(x, 200);
            due.is("LENGTH of WINDY", x.pupilOf(0, 7), lengths[a]);
            due.is("will of WINDY, LENGTH " + lengths[a], x.will(0, 0), wills[a]);
            x = one(LONG, a, 4);
            Due.live(x, 200);
            due.is("will of LONG, whatever his LENGTH", x.will(0, 0), 12);
        }
        // what is above 12 counts until the quarter of his 33 lines is taken away: 14, 16, 18, 20 less 8
        for (int common = 5; common < 9; common++) {
            DearPenFriend x = one(WINDY, 9, common);
            Due.live(x, 200);
            due.is("will of WINDY, LENGTH 33, COMMON " + common, x.will(0, 0), 2 * common - 4);
        }
        // on FRIDAY 10 lines: a quarter is 2
        DearPenFriend x = one(WINDY, 9, 0);
        x.ask(2, 1);
        Due.live(x, 200);
        due.is("LENGTH on FRIDAY", x.pupilOf(0, 7), 10);
        due.is("will of WINDY, LENGTH 10, on FRIDAY", x.will(0, 0), 4);
        x.ask(2, 0);
        due.is("will of WINDY, LENGTH 10", x.will(0, 0), 2);
    }

    /** "ASHAMED as a PUPIL, less SILENT besides". */
    private static void ashamedLessSilentBesides() {
        due.promise(19);
        DearPenFriend x = one(ASHAMED, 9, 4);
        int[] wills = {11, 10, 9, 7, 6, 5, 3, 2, 1, 0, 0};
        for (int weeks = 0; weeks < wills.length; weeks++) {
            due.is("will of ASHAMED, SILENT " + weeks, x.will(0, 0), wills[weeks]);
            silence(x, 0, 1);
        }
    }

    /** "PROUD that of ASHAMED, but 0, if he has been SILENT for a weeks at least". */
    private static void proudSilentForAWeeks() {
        due.promise(19);
        // ASHAMED with COMMON 4
        int[] wills = {11, 10, 9, 7, 6, 5, 3, 2, 1, 0};
        for (int a = 0; a < 10; a++) {
            DearPenFriend x = one(PROUD, a, 4);
            for (int weeks = 0; weeks < wills.length; weeks++) {
                due.is("will of PROUD with " + a + ", SILENT " + weeks, x.will(0, 0), weeks < a ? wills[weeks] : 0);
                silence(x, 0, 1);
            }
        }
    }

    /** "COPIER as a PUPIL, and a third of a (cut) more". */
    private static void aThirdOfA() {
        due.promise(19);
        int[] wills = {3, 3, 3, 4, 4, 4, 5, 5, 5, 6};
        for (int a = 0; a < 10; a++) {
            due.is("will of COPIER with " + a, one(COPIER, a, 0).will(0, 0), wills[a]);
            due.is("will of PUPIL with " + a, one(PUPIL, a, 0).will(0, 0), 3);
        }
    }

    /** "FRIDAY: 2 more for all (last, within 0 to 12)". */
    private static void fridaysTwoLast() {
        due.promise(19);
        int[] atOnce = {5, 6, 5, 6, 5, 6};
        for (int kind = 0; kind < KINDS; kind++) {
            DearPenFriend x = one(kind, 3, 0);
            due.is("will of kind " + kind + ", no FRIDAY", x.will(0, 0), atOnce[kind] - 2);
            x.ask(2, 1);
            due.is("will of kind " + kind + " on FRIDAY", x.will(0, 0), atOnce[kind]);
            x.ask(2, 0);
            due.is("will of kind " + kind + ", no FRIDAY again", x.will(0, 0), atOnce[kind] - 2);
        }
        // 12 at most: 9, 10, 11 and 12 ahead of it
        int[] ahead = {9, 8, 7, 6};
        int[] wills = {9, 10, 11, 12};
        for (int i = 0; i < 4; i++) {
            DearPenFriend x = one(PUPIL, 0, 7);
            x.ask(1, 9);
            due.is("9 ahead", x.will(0, 0), 9);
            x.ask(1, ahead[i]);
            due.is(wills[i] + " ahead", x.will(0, 0), wills[i]);
            x.ask(2, 1);
            due.is(wills[i] + " ahead, on FRIDAY", x.will(0, 0), Math.min(12, wills[i] + 2));
        }
        // 0 at least: 4 less TOIL, and 2
        DearPenFriend x = one(PUPIL, 0, 0);
        x.ask(2, 1);
        int[] low = {6, 5, 4, 3, 2, 1, 0, 0, 0, 0};
        for (int toil = 0; toil < 10; toil++) {
            x.ask(1, toil);
            due.is("will on FRIDAY, TOIL " + toil, x.will(0, 0), low[toil]);
        }
        // last: behind PROUD's 0
        x = one(PROUD, 2, 0);
        x.ask(2, 1);
        due.is("PROUD with 2 on FRIDAY", x.will(0, 0), 5);
        silence(x, 0, 1);
        due.is("PROUD with 2 on FRIDAY, SILENT 1", x.will(0, 0), 4);
        silence(x, 0, 1);
        due.is("PROUD with 2 on FRIDAY, SILENT 2", x.will(0, 0), 2);
        silence(x, 0, 97);
        due.is("PROUD with 2 on FRIDAY, SILENT 99", x.will(0, 0), 2);
    }

    /** "PUPIL 5 and a, and half of the LENGTH of his FRIEND (cut); LONG twice that; WINDY 5 more than LONG". */
    private static void halfOfLength() {
        due.promise(19);
        // PUPIL 0 writes 5 to 14 lines
        int[] halves = {2, 3, 3, 4, 4, 5, 5, 6, 6, 7};
        for (int a = 0; a < 10; a++) {
            for (int kind = 0; kind < KINDS; kind++) {
                DearPenFriend x = two(PUPIL, a, kind, 9, 0);
                due.is("LINES of kind " + kind + " to no letter", x.will(1, 1), new int[] {14, 28, 14, 33, 14, 1}[kind]);
                Due.live(x, 100);
                int plain = 14 + halves[a];
                int[] lines = {plain, 2 * plain, plain, 2 * plain + 5, plain, 5 + a};
                due.is("LINES of kind " + kind + " to " + (5 + a), x.will(1, 1), lines[kind]);
            }
        }
        DearPenFriend x = two(PUPIL, 0, PUPIL, 0, 0);
        due.is("a of 0, no letter", x.will(0, 1), 5);
        due.is("his own LENGTH doesn't count", x.will(1, 1), 5);
        Due.live(x, 200);
        due.is("his own LENGTH doesn't count", x.will(0, 1), 5);
        due.is("a lost letter counts as well", x.will(1, 1), 7);
    }

    /** "less SILENT (1 at least)"; "COPIER the LENGTH of his FRIEND (1 at least)". */
    private static void oneLineAtLeast() {
        due.promise(19);
        int[] shamed = {ASHAMED, PROUD};
        for (int kind : shamed) {
            DearPenFriend x = one(kind, 0, 0);
            x.ask(1, 9);
            int[] lines = {5, 4, 3, 2, 1, 1, 1};
            for (int weeks = 0; weeks < lines.length; weeks++) {
                due.is("LINES of kind " + kind + ", SILENT " + weeks, x.will(0, 1), lines[weeks]);
                silence(x, 0, 1);
            }
            silence(x, 0, 92);
            due.is("LINES of kind " + kind + ", SILENT 99", x.will(0, 1), 1);
        }
        // ASHAMED 0 writes 1 line, 2 lines, and the COPIER as many
        int[] weeks = {5, 4, 3};
        int[] copied = {1, 1, 2};
        for (int i = 0; i < 3; i++) {
            DearPenFriend x = two(ASHAMED, 0, COPIER, 9, 4);
            due.is("COPIER of no letter", x.will(1, 1), 1);
            silence(x, 0, weeks[i]);
            Due.live(x, 100);
            due.is("LENGTH of ASHAMED", x.pupilOf(0, 7), copied[i]);
            due.is("COPIER", x.will(1, 1), copied[i]);
        }
    }

    /** "99 at most": LONG 98 and 100, WINDY 97, 99 and 101; COPIER of 99. */
    private static void ninetyNineLinesAtMost() {
        due.promise(19);
        // 2 times (5 and 2, and half of 84); 2 times (5 and 9, and half of 72)
        linesOfLetter(4, two(LONG, 2, LONG, 9, 8), 98);
        linesOfLetter(3, two(LONG, 6, LONG, 9, 8), 99);
        // 2 times (5 and 9, and half of 64), and 5; of 68
        linesOfLetter(3, two(LONG, 3, WINDY, 9, 8), 97);
        linesOfLetter(4, two(WINDY, 0, LONG, 9, 8), 99);
        linesOfLetter(3, two(LONG, 4, WINDY, 9, 8), 99);
        DearPenFriend x = two(LONG, 9, LONG, 9, 8);
        linesOfLetter(3, x, 99);
        Due.live(x, 101);
        due.is("LONG of 99", x.will(0, 1), 99);
        x = two(LONG, 9, COPIER, 0, 8);
        x.ask(1, 0);
        Due.live(x, 100, 101, 100, 101, 100, 101, 100);
        due.is("LENGTH of the COPIER", x.pupilOf(1, 7), 84);
        due.is("COPIER of 99", x.will(1, 1), 99);
        x = two(COPIER, 0, LONG, 9, 8);
        due.is("COPIER of no letter", x.will(0, 1), 1);
    }

    /** Letters ahead of that one are told, by turns; then it would have so many LINES. */
    private static void linesOfLetter(int letters, DearPenFriend x, int lines) {
        x.ask(1, 0);
        for (int i = 0; i < letters; i++) {
            due.is("the test's own letter", Due.live(x, 100 + i % 2) > 0 ? 1 : 0, 1);
        }
        due.is("LINES of letter " + letters, x.will(letters % 2, 1), lines);
    }

    /** "FRIDAY: 10 at most". */
    private static void tenLinesOnFriday() {
        due.promise(19);
        for (int kind = 0; kind < KINDS; kind++) {
            for (int a = 0; a < 10; a++) {
                DearPenFriend x = one(kind, a, 0);
                x.ask(2, 1);
                int[] lines = {5 + a, 10, 5 + a, 10, 5 + a, 1};
                due.is("LINES of kind " + kind + " with " + a + " on FRIDAY", x.will(0, 1), Math.min(10, lines[kind]));
                x.ask(2, 0);
                int[] otherDays = {5 + a, 10 + 2 * a, 5 + a, 15 + 2 * a, 5 + a, 1};
                due.is("LINES of kind " + kind + " with " + a, x.will(0, 1), otherDays[kind]);
            }
        }
        // COPIER of 9, 10 and 11 lines; ASHAMED less SILENT ahead of the 10
        for (int a = 4; a < 7; a++) {
            DearPenFriend x = two(PUPIL, a, COPIER, 0, 0);
            Due.live(x, 100);
            x.ask(2, 1);
            due.is("COPIER of " + (5 + a) + " on FRIDAY", x.will(1, 1), Math.min(10, 5 + a));
        }
        DearPenFriend x = one(ASHAMED, 9, 4);
        x.ask(2, 1);
        x.ask(1, 3);
        int[] lines = {10, 10, 10, 10, 10, 9, 8};
        for (int weeks = 0; weeks < lines.length; weeks++) {
            due.is("LINES of ASHAMED on FRIDAY, SILENT " + weeks, x.will(0, 1), lines[weeks]);
            silence(x, 0, 1);
        }
    }

    /** "OVER: a pair whose one that OWES has WILL 0": 1 isn't; the other's WILL doesn't count. */
    private static void overAtWillZero() {
        due.promise(20);
        DearPenFriend x = two(PUPIL, 0, PROUD, 0, 0);
        int[] over = {0, 0, 0, 0, 1, 1};
        for (int toil = 0; toil < over.length; toil++) {
            x.ask(1, toil);
            due.is("over(0), TOIL " + toil, x.over(0), over[toil]);
            due.is("over(1), TOIL " + toil, x.over(1), over[toil]);
            due.is("may(), TOIL " + toil, x.may(), 1 - over[toil]);
        }
        x.ask(1, 3);
        Due.live(x, 100);
        due.is("over(0), now PROUD with 0 OWES", x.over(0), 1);
        due.is("over(1)", x.over(1), 1);
        x.ask(2, 1);
        due.is("over(0) on FRIDAY", x.over(0), 0);
        // silent until it is over
        x = one(PUPIL, 0, 0);
        silence(x, 0, 8);
        due.is("SILENT 8", x.over(0), 0);
        silence(x, 0, 1);
        due.is("SILENT 9", x.over(0), 1);
    }

    private static void stillIs(String when, DearPenFriend x, int... likely) {
        for (int n = 0; n < likely.length; n++) {
            due.is("still(0, " + n + "), " + when, x.still(0, n), likely[n]);
            due.is("still(1, " + n + "), " + when, x.still(1, n), likely[n]);
        }
    }

    /** "n weeks (0 to 12)"; "SILENT of him who OWES, which grows": WILL 3, 3, 3, 2, 2, 2, 1, 1, 1, 0, 0, 0. */
    private static void stillWeekByWeek() {
        due.promise(21);
        DearPenFriend x = one(PUPIL, 0, 0);
        x.ask(0, 0);
        stillIs("PUPIL", x, 0, 250000, 437500, 578125, 648438, 707032, 755860, 776205, 794855, 811951, 811951, 811951, 811951);
        silence(x, 0, 2);
        stillIs("PUPIL, SILENT 2", x, 0, 250000, 375000, 479167, 565973);
        silence(x, 0, 6);
        stillIs("PUPIL, SILENT 8", x, 0, 83334, 83334, 83334);
        silence(x, 0, 91);
        stillIs("PUPIL, SILENT 99", x, 0, 0, 0);
        x = one(PROUD, 2, 0);
        x.ask(0, 0);
        // WILL 3, 2, then 0; on FRIDAY 5, 4, then 2
        stillIs("PROUD with 2", x, 0, 250000, 375000, 375000, 375000);
        x.ask(2, 1);
        stillIs("PROUD with 2 on FRIDAY", x, 0, 416667, 611112, 675927, 729940);
        // he who OWES, not the other
        x = two(PUPIL, 0, PROUD, 0, 0);
        x.ask(0, 0);
        stillIs("PUPIL to PROUD with 0", x, 0, 250000, 437500);
        Due.live(x, 100);
        stillIs("PROUD with 0 to PUPIL", x, 0, 0, 0);
    }

    /** "1,000,000 at first, week by week times (144 less WILL times (12 less LOSS)), by 144 (cut)". */
    private static void stillCut() {
        due.promise(21);
        // PROUD with 0 on FRIDAY: WILL 2, whatever his SILENT: by 6 times 5 each week
        DearPenFriend x = one(PROUD, 0, 0);
        x.ask(0, 0);
        x.ask(2, 1);
        int[] missing = {1000000, 833333, 694444, 578703, 482252, 401876, 334896, 279080, 232566, 193805, 161504, 134586, 112155};
        for (int n = 0; n <= 12; n++) {
            due.is("still(0, " + n + ") by 5 of 6", x.still(0, n), 1000000 - missing[n]);
        }
        // WILL 12: by LOSS of 12
        x = one(LONG, 0, 8);
        x.ask(0, 0);
        stillIs("WILL 12, LOSS 0", x, 0, 1000000, 1000000);
        due.is("still(0, 12), WILL 12, LOSS 0", x.still(0, 12), 1000000);
        x.ask(0, 12);
        stillIs("WILL 12, LOSS 12", x, 0, 0, 0);
        due.is("still(0, 12), WILL 12, LOSS 12", x.still(0, 12), 0);
        x.ask(0, 6);
        stillIs("WILL 12, LOSS 6", x, 0, 500000, 750000, 875000, 937500, 968750, 984375, 992188, 996094, 998047, 999024, 999512, 999756);
        x.ask(0, 11);
        stillIs("WILL 12, LOSS 11", x, 0, 83334, 159723);
        x.ask(0, 1);
        stillIs("WILL 12, LOSS 1", x, 0, 916667, 993056, 999422, 999952, 999996, 1000000);
        x = one(PROUD, 0, 0);
        x.ask(0, 0);
        due.is("still(0, 12), WILL 0", x.still(0, 12), 0);
    }

    /** "all as it is now but SILENT": LENGTH, TOIL and FRIDAY stay. */
    private static void stillAsItIs() {
        due.promise(21);
        DearPenFriend x = one(WINDY, 0, 0);
        x.ask(0, 0);
        Due.live(x, 200);
        // 5 less 1 less 3 of 15 lines
        stillIs("WINDY who has written", x, 0, 83334, 159723, 229747, 229747);
        x.ask(1, 0);
        stillIs("TOIL 0", x, 0, 166667, 305556, 421297, 469523);
    }

    /** "the least n (1 to 12) so that STILL after n is v at least; NONE". */
    private static void againLeast() {
        due.promise(22);
        DearPenFriend x = one(PUPIL, 0, 0);
        x.ask(0, 0);
        int[][] least = {{0, 1}, {1, 1}, {250000, 1}, {250001, 2}, {437500, 2}, {437501, 3}, {578125, 3}, {578126, 4},
            {811951, 9}, {811952, -1}, {1000000, -1}};
        for (int[] d : least) {
            due.is("again(0, " + d[0] + ")", x.again(0, d[0]), d[1]);
            due.is("again(1, " + d[0] + ")", x.again(1, d[0]), d[1]);
        }
        // 865414 after 11 weeks, 887845 after 12
        x = one(PROUD, 0, 0);
        x.ask(0, 0);
        x.ask(2, 1);
        int[][] late = {{865414, 11}, {865415, 12}, {887845, 12}, {887846, -1}};
        for (int[] d : late) {
            due.is("again(0, " + d[0] + "), by 5 of 6", x.again(0, d[0]), d[1]);
        }
        x = one(LONG, 0, 8);
        x.ask(0, 0);
        due.is("again(0, 1000000), WILL 12 and LOSS 0", x.again(0, 1000000), 1);
        x.ask(0, 12);
        due.is("again(0, 0), LOSS 12", x.again(0, 0), 1);
        due.is("again(0, 1), LOSS 12", x.again(0, 1), -1);
        due.is("refusals", Due.refusals(x), 0);
    }

    private static void lostIs(String when, DearPenFriend x, int... weeksAndAnswers) {
        for (int i = 0; i < weeksAndAnswers.length; i += 2) {
            int s = weeksAndAnswers[i];
            due.is("lost(0, " + s + "), " + when, x.lost(0, s), weeksAndAnswers[i + 1]);
            due.is("lost(1, " + s + "), " + when, x.lost(1, s), weeksAndAnswers[i + 1]);
        }
    }

    /** "1000 times L by (L and N) ..; 0, if both are 0"; "WILL as it was at SILENT 0". */
    private static void lostOrOver() {
        due.promise(23);
        // WILL 3: L 83333, 6944, 578, 48, 4, 0; N 750000, 562500, 421875, 316406, 237304, 177978
        DearPenFriend x = one(PUPIL, 0, 0);
        lostIs("WILL 3, LOSS 1", x, 0, 500, 1, 99, 2, 12, 3, 1, 4, 0, 5, 0, 6, 0, 40, 0);
        silence(x, 0, 30);
        lostIs("WILL 3 at SILENT 0, LOSS 1", x, 0, 500, 1, 99, 2, 12, 3, 1);
        x.ask(0, 0);
        lostIs("LOSS 0", x, 0, 500, 1, 0, 40, 0);
        x.ask(0, 12);
        // N 750000; 562500; nothing by and by
        lostIs("LOSS 12", x, 0, 500, 1, 571, 2, 640, 40, 999);
        // WILL 6, LOSS 6: 1 of both after 19 weeks, 0 after 20
        x = one(PUPIL, 0, 1);
        x.ask(1, 0);
        x.ask(0, 6);
        lostIs("WILL 6, LOSS 6", x, 0, 500, 1, 500, 19, 500, 20, 0, 40, 0);
        x = one(LONG, 0, 8);
        lostIs("WILL 12, LOSS 1", x, 0, 500, 1, 1000, 5, 1000, 6, 0);
        x.ask(0, 0);
        lostIs("WILL 12, LOSS 0: both 0", x, 0, 500, 1, 0, 40, 0);
        x.ask(0, 12);
        lostIs("WILL 12, LOSS 12", x, 0, 500, 1, 1000, 40, 1000);
        x = one(PROUD, 0, 0);
        lostIs("WILL 0, LOSS 1", x, 0, 500, 1, 76, 2, 6, 3, 0);
        x.ask(0, 12);
        lostIs("WILL 0, LOSS 12", x, 0, 500, 1, 500, 40, 500);
        // PROUD with 1 writes at SILENT 0 alone
        x = one(PROUD, 1, 0);
        silence(x, 0, 5);
        lostIs("PROUD with 1", x, 0, 500, 1, 99, 2, 12);
        // of the one who OWES: 1, by WILL 12, not PROUD with 0
        x = two(LONG, 0, PROUD, 0, 8);
        lostIs("LONG OWES", x, 1, 1000);
        x.ask(1, 0);
        Due.live(x, 100);
        lostIs("PROUD with 0 OWES", x, 1, 76);
        // a WINDY one's LENGTH is as it is
        x = one(WINDY, 0, 0);
        Due.live(x, 200);
        lostIs("WINDY of 15 lines: WILL 1", x, 1, 83);
    }

    /** "After how few weeks (0 to 99) of silence more WILL .. is 0, all else as it is; NONE". */
    private static void lastsHowFew() {
        due.promise(36);
        DearPenFriend x = one(PUPIL, 0, 0);
        due.is("lasts(0), WILL 3", x.lasts(0), 9);
        due.is("lasts(1), who doesn't OWE", x.lasts(1), 9);
        silence(x, 0, 8);
        due.is("lasts(0), SILENT 8", x.lasts(0), 1);
        silence(x, 0, 1);
        due.is("lasts(0), SILENT 9: WILL is 0", x.lasts(0), 0);
        silence(x, 0, 1);
        due.is("lasts(0), SILENT 10", x.lasts(0), 0);
        due.is("lasts(1), still", x.lasts(1), 9);
        for (int a = 0; a < 10; a++) {
            due.is("lasts of PROUD with " + a, one(PROUD, a, 8).lasts(0), a);
        }
        // the longest: 4 and 16 and 3, and 2 on FRIDAY
        x = one(COPIER, 9, 8);
        x.ask(1, 0);
        due.is("lasts of COPIER with 9", x.lasts(0), 69);
        x.ask(2, 1);
        due.is("lasts of COPIER with 9 on FRIDAY", x.lasts(0), 75);
        x = one(PROUD, 2, 0);
        x.ask(2, 1);
        due.is("lasts of PROUD on FRIDAY", x.lasts(0), -1);
        due.is("refusals", Due.refusals(x), 0);
        // 19 less 14, less 4 is 1; less 15, less 5 is below 0
        x = one(ASHAMED, 0, 8);
        due.is("lasts of ASHAMED", x.lasts(0), 15);
        x = one(WINDY, 0, 0);
        due.is("lasts of WINDY, WILL 4", x.lasts(0), 12);
        Due.live(x, 200);
        due.is("lasts of WINDY who has written", x.lasts(0), 3);
    }

    /** "raised WILL of his FRIEND to him most, of several the first; NONE: none raises it". */
    private static void wishOfSeveralTheFirst() {
        due.promise(37);
        for (int bit = 0; bit < 8; bit++) {
            DearPenFriend x = Due.with("pupil 0 0 0;pupil 0 0 1;pair 0 1");
            due.is("neither likes any", x.wish(0), -1);
            x.likes(1, bit, true);
            due.is("the other likes " + bit, x.wish(0), bit);
            due.is("wish(1)", x.wish(1), -1);
            x.likes(1, 7, true);
            due.is("the other likes 7 besides", x.wish(0), bit);
            x.likes(0, bit, true);
            due.is("he likes " + bit + " as well", x.wish(0), bit == 7 ? -1 : 7);
            due.is("refusals", Due.refusals(x), 0);
        }
        // WILL of the other: 10, 11 and 12
        int[] toil = {2, 1, 0};
        int[] wishes = {4, 4, -1};
        for (int i = 0; i < 3; i++) {
            DearPenFriend x = two(PUPIL, 0, PUPIL, 0, 4);
            x.likes(1, 4, true);
            x.ask(1, toil[i]);
            due.is("will(1, 0), TOIL " + toil[i], x.will(1, 0), 12 - toil[i]);
            due.is("wish(0), TOIL " + toil[i], x.wish(0), wishes[i]);
        }
        // WILL of the other is 4 less TOIL: with one more in common 1, or 0 still
        DearPenFriend x = Due.with("pupil 0 0 0;pupil 0 0 1;likes 1 2;pair 0 1");
        x.ask(1, 5);
        due.is("wish(0): 4 less 5, and 2", x.wish(0), 2);
        x.ask(1, 6);
        due.is("wish(0): 4 less 6, and 2", x.wish(0), -1);
        // it is the other's WILL, not his
        x = Due.with("pupil 0 0 0;pupil 4 0 1;likes 1 2;likes 0 3;pair 0 1");
        due.is("PROUD with 0 is raised by none", x.wish(0), -1);
        due.is("but PUPIL by 3", x.wish(1), 3);
    }

    /** "As if two were a pair now, SILENT and LENGTHS as they are". */
    private static void asPairAsTheyAre() {
        due.promise(38);
        // WINDY 0 of 15 lines with PUPIL 1; ASHAMED 2, silent for 3, with LONG 3 of no letter; 4, 5 are free
        DearPenFriend x = Due.with("pupil 3 0 0;pupil 0 1 1;pupil 2 4 0;pupil 1 0 1;pupil 5 6 0;pupil 0 9 1;pair 0 1;pair 2 3");
        Due.live(x, 200, 302, 302, 302);
        x.likes(0, 0, true);
        x.likes(5, 0, true);
        due.is("WINDY 0 to 5: 4 and 2 less 1, and 1, less 3", x.asPair(0, 5, 0), 3);
        due.is("WINDY 0 to 5: 2 times 5, and 5", x.asPair(0, 5, 1), 15);
        due.is("5 to WINDY 0: 4 and 2 less 1", x.asPair(5, 0, 0), 5);
        due.is("5 to WINDY 0: 14 and half of 15", x.asPair(5, 0, 1), 21);
        due.is("ASHAMED 2 to 5: 3 less 1 less 3", x.asPair(2, 5, 0), 0);
        due.is("ASHAMED 2 to 5: 9 less 3", x.asPair(2, 5, 1), 6);
        due.is("COPIER 4 to 5", x.asPair(4, 5, 0), 5);
        due.is("COPIER 4 to 5, of no letter", x.asPair(4, 5, 1), 1);
        due.is("LONG 3 to WINDY 0", x.asPair(3, 0, 1), 24);
        due.is("with his own FRIEND", x.asPair(0, 1, 1), x.will(0, 1));
        due.is("with his own FRIEND", x.asPair(2, 3, 0), x.will(2, 0));
        due.is("two of one SCHOOL", x.asPair(0, 2, 0), -2);
        due.is("two of the other SCHOOL", x.asPair(5, 1, 1), -2);
        due.is("he and himself", x.asPair(4, 4, 0), -2);
        due.is("nobody is a pair by it", x.status(1), 2);
    }

    /** "The LOSS (0 to 12), the greatest, by which STILL .. is v .. at least; NONE". */
    private static void bearsTheGreatest() {
        due.promise(40);
        // WILL 12, a week: 1,000,000 less LOSS of 12
        DearPenFriend x = one(LONG, 0, 8);
        x.ask(0, 7);
        int[][] week = {{0, 12}, {1, 11}, {83334, 11}, {83335, 10}, {500000, 6}, {500001, 5}, {916667, 1}, {916668, 0}, {1000000, 0}};
        for (int[] w : week) {
            due.is("bears(0, 1, " + w[0] + ")", x.bears(0, 1, w[0]), w[1]);
            due.is("bears(1, 1, " + w[0] + ")", x.bears(1, 1, w[0]), w[1]);
        }
        due.is("LOSS stays", x.status(2), 7);
        due.is("bears(0, 0, 0)", x.bears(0, 0, 0), 12);
        due.is("bears(0, 0, 1)", x.bears(0, 0, 1), -1);
        due.is("bears(0, 12, 999756)", x.bears(0, 12, 999756), 6);
        due.is("bears(0, 12, 999757)", x.bears(0, 12, 999757), 5);
        // WILL 3, then 3: 437500 with LOSS 0
        x = one(PUPIL, 0, 0);
        due.is("bears(0, 2, 437500)", x.bears(0, 2, 437500), 0);
        due.is("bears(0, 2, 437501)", x.bears(0, 2, 437501), -1);
        due.is("bears(0, 1, 1000000)", x.bears(0, 1, 1000000), -1);
        x = one(PROUD, 0, 0);
        due.is("bears(0, 12, 0), WILL 0", x.bears(0, 12, 0), 12);
        due.is("bears(0, 12, 1), WILL 0", x.bears(0, 12, 1), -1);
        due.is("refusals", Due.refusals(x), 0);
    }

    /** "LENGTH of the last of n (0 to 40) letters .., by turns, each by LINES as it then is, and coming (0: that of him who doesn't OWE now)". */
    private static void driftByTurns() {
        due.promise(41);
        // LONG 0 with a 0, PUPIL 1 with a 9: 10, 19, 28, 28, 38, 33, 42, 35, 44, 36..
        DearPenFriend x = two(LONG, 0, PUPIL, 9, 0);
        int[] lengths = {0, 10, 19, 28, 28, 38, 33, 42, 35, 44, 36, 46, 37, 46};
        for (int n = 0; n < lengths.length; n++) {
            due.is("drift(0, " + n + ")", x.drift(0, n), lengths[n]);
            due.is("drift(1, " + n + ")", x.drift(1, n), lengths[n]);
        }
        due.is("drift(0, 39)", x.drift(0, 39), 46);
        due.is("drift(0, 40)", x.drift(0, 40), 37);
        Due.live(x, 100);
        due.is("drift(0, 0): he who doesn't OWE now", x.drift(0, 0), 10);
        due.is("drift(1, 0)", x.drift(1, 0), 10);
        due.is("drift(1, 1)", x.drift(1, 1), 19);
        Due.live(x, 201);
        due.is("drift(0, 0), one lost since", x.drift(0, 0), 10);
        // it is written, however little WILL there is, and comes, however much is lost
        x = one(PROUD, 0, 0);
        x.ask(0, 12);
        due.is("drift of PROUD with 0, LOSS 12", x.drift(0, 1), 5);
        due.is("drift to him", x.drift(0, 2), 7);
        x.ask(2, 1);
        due.is("drift on FRIDAY: 5, 7, 8, 9, 9", x.drift(0, 5), 9);
        x = two(LONG, 9, LONG, 9, 0);
        x.ask(2, 1);
        due.is("drift of LONG on FRIDAY", x.drift(0, 40), 10);
        // ASHAMED who was silent for 4 writes 1 line, and then isn't silent
        x = one(ASHAMED, 0, 4);
        silence(x, 0, 4);
        due.is("drift of ASHAMED, 1", x.drift(0, 1), 1);
        due.is("drift of ASHAMED, 2", x.drift(0, 2), 5);
        due.is("drift of ASHAMED, 3", x.drift(0, 3), 7);
        due.is("he is silent still", x.pupilOf(0, 6), 4);
    }
}
