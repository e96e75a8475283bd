/** Promises 19 to 23, 36 to 38, 40 and 41: what one pair will write. */
public final class LettersTest {
    private static final Due due = new Due("LettersTest");
    /** Two with COMMON 2; the kind and the a of the first are put ahead. */
    private static final String BEHIND = " 0; pupil 0 4 1; likes 0 0; likes 0 5; likes 1 0; likes 1 5; pair 0 1";

    public static void main(String[] args) {
        willByKinds();
        willWithinBounds();
        linesByKinds();
        willRefused();
        over();
        still();
        again();
        lost();
        lasts();
        wish();
        asPair();
        bears();
        drift();
        due.end();
    }

    private static DearPenFriend ofKind(int kind, int a) {
        return Due.with("pupil " + kind + " " + a + BEHIND);
    }

    private static void silence(DearPenFriend x, int weeks) {
        for (int i = 0; i < weeks; i++) {
            Due.live(x, 300);
        }
    }

    private static void willByKinds() {
        due.promise(19);
        // by kinds, with a 7: after 0, 5, 7 weeks of silence; TOIL 1, COMMON 2
        long[] atOnce = {7, 8, 7, 8, 7, 9};
        long[] afterFive = {6, 7, 1, 7, 1, 8};
        long[] afterSeven = {5, 6, 0, 6, 0, 7};
        for (int kind = 0; kind < 6; kind++) {
            DearPenFriend x = ofKind(kind, 7);
            due.is("will at once of kind " + kind, x.will(0, 0), atOnce[kind]);
            silence(x, 5);
            due.is("will after 5 of kind " + kind, x.will(0, 0), afterFive[kind]);
            x.ask(1, 4);
            due.is("will with TOIL 4 of kind " + kind, x.will(0, 0), Math.max(0, afterFive[kind] - 3));
            x.ask(1, 1);
            silence(x, 2);
            due.is("will after 7 of kind " + kind, x.will(0, 0), afterSeven[kind]);
            x.ask(2, 1);
            // on FRIDAY: ASHAMED has 5 less 7 and 2 more, PROUD 0 and 2 more
            due.is("will on FRIDAY of kind " + kind, x.will(0, 0), kind == 2 ? 0 : afterSeven[kind] + 2);
        }
        DearPenFriend x = ofKind(4, 3);
        silence(x, 2);
        due.is("PROUD, silent for less than a", x.will(0, 0), 5);
        silence(x, 1);
        due.is("PROUD, silent for a", x.will(0, 0), 0);
        x = ofKind(5, 2);
        due.is("a third of 2", x.will(0, 0), 7);
    }

    private static void willWithinBounds() {
        DearPenFriend x = new DearPenFriend();
        x.pupil(5, 9, 0);
        x.pupil(0, 0, 1);
        for (int bit = 0; bit < 8; bit++) {
            x.likes(0, bit, true);
            x.likes(1, bit, true);
        }
        x.pair(0, 1);
        due.is("will, 12 at most", x.will(0, 0), 12);
        x.ask(2, 1);
        due.is("will on FRIDAY, 12 at most", x.will(0, 0), 12);
        x = Due.with("pupil 0 0 0; pupil 0 0 1; pair 0 1; toil 9");
        due.is("will, 0 at least", x.will(0, 0), 0);
        x.ask(2, 1);
        due.is("will on FRIDAY, 0 at least: 4 less 9, and 2", x.will(0, 0), 0);
        x.ask(1, 5);
        due.is("will on FRIDAY: 4 less 5, and 2", x.will(0, 0), 1);
        // WINDY: a quarter of his LENGTH, 2 times (5 and 9) and 5
        x = Due.with("pupil 3 9 0; pupil 0 0 1; pair 0 1; toil 0");
        Due.live(x, 200);
        due.is("length of WINDY", x.pupilOf(0, 7), 33);
        due.is("will of WINDY: 5 less 8", x.will(0, 0), 0);
        x.ask(2, 1);
        due.is("will of WINDY on FRIDAY", x.will(0, 0), 0);
        Due.list(x, "likes 0 0; likes 1 0");
        due.is("will of WINDY: 7 less 8, and 2", x.will(0, 0), 1);
    }

    private static void linesByKinds() {
        // by kinds, with a 7, answering 9 lines, after 0 and 13 weeks
        long[] atOnce = {16, 32, 16, 37, 16, 9};
        long[] late = {16, 32, 3, 37, 3, 9};
        long[] fridays = {10, 10, 3, 10, 3, 9};
        for (int kind = 0; kind < 6; kind++) {
            DearPenFriend x = Due.with("pupil 0 4 0; pupil " + kind + " 7 1; likes 0 0; likes 0 1; likes 1 0; likes 1 1; pair 0 1");
            Due.live(x, 100);
            due.is("lines at once of kind " + kind, x.will(1, 1), atOnce[kind]);
            for (int i = 0; i < 13; i++) {
                Due.live(x, 301);
            }
            due.is("lines after 13 of kind " + kind, x.will(1, 1), late[kind]);
            x.ask(2, 1);
            due.is("lines on FRIDAY of kind " + kind, x.will(1, 1), fridays[kind]);
            x.ask(2, 0);
            for (int i = 0; i < 20; i++) {
                Due.live(x, 301);
            }
            due.is("lines after 33 of kind " + kind, x.will(1, 1), kind == 2 || kind == 4 ? 1 : late[kind]);
        }
        DearPenFriend x = Due.with("pupil 5 7 0; pupil 1 9 1; pair 0 1");
        due.is("COPIER of no letter", x.will(0, 1), 1);
        due.is("LONG of no letter", x.will(1, 1), 28);
        x = Due.with("pupil 3 9 0; pupil 1 9 1; pair 0 1; loss 0");
        x.likes(0, 0, true);
        x.likes(1, 0, true);
        due.is("two who write more and more", x.drift(0, 40), 99);
    }

    private static void willRefused() {
        DearPenFriend x = Due.with("pupil 0 0 0");
        due.is("will(0, 2)", x.will(0, 2), -2);
        due.is("will(0, -1)", x.will(0, -1), -2);
        due.is("will(1, 0)", x.will(1, 0), -2);
        due.is("will(-1, 0)", x.will(-1, 0), -2);
        due.is("will(0, 1), no friend", x.will(0, 1), -5);
    }

    private static void over() {
        due.promise(20);
        // PROUD with a 0 never writes; his friend would
        DearPenFriend x = Due.with("pupil 4 0 0; pupil 0 0 1; pair 0 1; pupil 0 0 0; pupil 4 0 1; pair 2 3; pupil 0 0 1");
        due.is("over(0)", x.over(0), 1);
        due.is("over(1)", x.over(1), 1);
        due.is("over(2)", x.over(2), 0);
        due.is("over(3)", x.over(3), 0);
        due.is("over(4), no friend", x.over(4), -5);
        due.is("over(5)", x.over(5), -2);
        Due.live(x, 102);
        due.is("over(2), now the other owes", x.over(2), 1);
        due.is("over(3)", x.over(3), 1);
    }

    private static void still() {
        due.promise(21);
        DearPenFriend x = ofKind(0, 0);
        // 144 less 7 times 11, by 144, each of the first three weeks; then WILL is 6
        long[] likely = {0, 534723, 783517, 899276};
        for (int n = 0; n < likely.length; n++) {
            due.is("still(0, " + n + ")", x.still(0, n), likely[n]);
            due.is("still(1, " + n + ")", x.still(1, n), likely[n]);
        }
        due.is("still(0, 4), 100724 times 78 by 144", x.still(0, 4), 1000000 - 100724 * 78 / 144);
        silence(x, 1);
        due.is("silent a week: still(0, 2)", x.still(0, 2), 783517);
        due.is("silent a week: still(0, 3)", x.still(0, 3), 1000000 - 216483 * 78 / 144);
        x.ask(0, 12);
        due.is("all lost: still(0, 12)", x.still(0, 12), 0);
        x.ask(0, 0);
        due.is("none lost: still(0, 1)", x.still(0, 1), 583334);
        due.is("still(0, 13)", x.still(0, 13), -2);
        due.is("still(0, -1)", x.still(0, -1), -2);
        due.is("still(2, 0)", x.still(2, 0), -2);
        due.is("nothing is changed", x.pupilOf(0, 6), 1);
        x.part(0);
        due.is("still(0, 1), no friend", x.still(0, 1), -5);
    }

    private static void again() {
        due.promise(22);
        DearPenFriend x = ofKind(0, 0);
        due.is("again(0, 0)", x.again(0, 0), 1);
        due.is("again(0, 534723)", x.again(0, 534723), 1);
        due.is("again(0, 534724)", x.again(0, 534724), 2);
        due.is("again(1, 783518)", x.again(1, 783518), 3);
        due.is("again(0, 1000000)", x.again(0, 1000000), -1);
        due.is("nothing is refused", Due.refusals(x), 0);
        due.is("again(0, 1000001)", x.again(0, 1000001), -2);
        due.is("again(0, -1)", x.again(0, -1), -2);
        due.is("again(2, 0)", x.again(2, 0), -2);
        int last = x.still(0, 12);
        due.is("again of the twelfth", x.again(0, last), x.still(0, 11) == last ? 11 : 12);
        due.is("again of more", x.again(0, last + 1), -1);
        x.part(0);
        due.is("again(0, 0), no friend", x.again(0, 0), -5);
    }

    private static void lost() {
        due.promise(23);
        DearPenFriend x = ofKind(0, 0);
        due.is("lost(0, 0)", x.lost(0, 0), 500);
        // 83333 lost, 416666 not written
        due.is("lost(0, 1)", x.lost(0, 1), 166);
        due.is("lost(1, 1)", x.lost(1, 1), 166);
        // 6944 lost, 173610 not written
        due.is("lost(0, 2)", x.lost(0, 2), 38);
        silence(x, 12);
        due.is("lost(0, 1), WILL as at SILENT 0", x.lost(0, 1), 166);
        x.ask(0, 6);
        // 250000 lost, 173610 not written
        due.is("lost(0, 2), LOSS 6", x.lost(0, 2), 590);
        due.is("lost(0, 40), both 0", x.lost(0, 40), 0);
        x.ask(0, 0);
        due.is("lost(0, 1), LOSS 0", x.lost(0, 1), 0);
        // ASHAMED, WILL 7 at SILENT 0: as PUPIL; PROUD with 1 writes at SILENT 0
        due.is("lost of ASHAMED", ofKind(2, 0).lost(0, 1), 166);
        due.is("lost of PROUD with 1", ofKind(4, 1).lost(0, 1), 166);
        due.is("lost of PROUD with 0", ofKind(4, 0).lost(0, 1), 76);
        due.is("lost(0, 41)", x.lost(0, 41), -2);
        due.is("lost(0, -1)", x.lost(0, -1), -2);
        due.is("lost(2, 0)", x.lost(2, 0), -2);
        Due.list(x, "likes 0 1; likes 1 1; likes 0 2; likes 1 2; likes 0 3; likes 1 3; loss 12");
        due.is("lost(0, 1), WILL 12 and LOSS 12", x.lost(0, 1), 1000);
        x.part(0);
        due.is("lost(0, 0), no friend", x.lost(0, 0), -5);
    }

    private static void lasts() {
        due.promise(36);
        // 7 less a third of SILENT; ASHAMED: 7 less SILENT and a third of it
        DearPenFriend x = ofKind(0, 0);
        due.is("lasts(0)", x.lasts(0), 21);
        due.is("lasts(1), who owes nothing", x.lasts(1), 21);
        silence(x, 2);
        due.is("lasts(0), silent for 2", x.lasts(0), 19);
        due.is("lasts of ASHAMED", ofKind(2, 0).lasts(0), 6);
        due.is("lasts of PROUD with 3", ofKind(4, 3).lasts(0), 3);
        due.is("lasts of PROUD with 0", ofKind(4, 0).lasts(0), 0);
        x = ofKind(4, 3);
        x.ask(2, 1);
        due.is("lasts of PROUD on FRIDAY", x.lasts(0), -1);
        due.is("nothing is refused", Due.refusals(x), 0);
        due.is("lasts(2)", x.lasts(2), -2);
        x.part(0);
        due.is("lasts(0), no friend", x.lasts(0), -5);
    }

    private static void wish() {
        due.promise(37);
        DearPenFriend x = Due.with("pupil 0 0 0; pupil 0 0 1; likes 0 2; likes 1 2; likes 1 5; likes 1 7; pair 0 1");
        due.is("wish(0)", x.wish(0), 5);
        due.is("wish(1), 0 likes no more", x.wish(1), -1);
        due.is("nothing is changed", x.pupilOf(0, 3), 4);
        x.likes(1, 0, true);
        due.is("wish(0), the first", x.wish(0), 0);
        x.likes(1, 0, false);
        x.likes(0, 5, true);
        due.is("wish(0) now", x.wish(0), 7);
        x.ask(1, 9);
        // WILL of 1 is 4 and 4 less 9; with one more 1
        due.is("wish(0), TOIL 9", x.wish(0), 7);
        x.likes(0, 5, false);
        due.is("wish(0), none raises it", x.wish(0), -1);
        due.is("nothing is refused", Due.refusals(x), 0);
        due.is("wish(2)", x.wish(2), -2);
        x.part(0);
        due.is("wish(0), no friend", x.wish(0), -5);
        // PROUD 1, who owes nothing, but with a 0 never writes
        due.is("wish of the friend of PROUD", Due.with("pupil 0 0 0; pupil 4 0 1; likes 1 1; pair 0 1").wish(0), -1);
    }

    private static void asPair() {
        due.promise(38);
        DearPenFriend x = ofKind(5, 6);
        Due.list(x, "pupil 2 1 0; pupil 1 3 1; likes 3 0; pair 2 3");
        silence(x, 3);
        Due.live(x, 302, 302, 102);
        due.is("length of 2", x.pupilOf(2, 7), 4);
        // COPIER 0 to LONG 3: 4 and 2 less 1, less 1, and 2; he copies no letter
        due.is("asPair(0, 3, 0)", x.asPair(0, 3, 0), 6);
        due.is("asPair(0, 3, 1)", x.asPair(0, 3, 1), 1);
        // LONG 3 to COPIER 0
        due.is("asPair(3, 0, 0)", x.asPair(3, 0, 0), 6);
        due.is("asPair(3, 0, 1)", x.asPair(3, 0, 1), 16);
        // LONG 3 to ASHAMED 2, as they are: half of 4
        due.is("asPair(3, 2, 1)", x.asPair(3, 2, 1), 20);
        due.is("asPair(1, 2, 0)", x.asPair(1, 2, 0), 3);
        due.is("asPair(1, 2, 1)", x.asPair(1, 2, 1), 11);
        due.is("asPair(0, 2, 0), of one school", x.asPair(0, 2, 0), -2);
        due.is("asPair(0, 0, 0)", x.asPair(0, 0, 0), -2);
        due.is("asPair(0, 4, 0)", x.asPair(0, 4, 0), -2);
        due.is("asPair(4, 0, 0)", x.asPair(4, 0, 0), -2);
        due.is("asPair(0, 1, 2)", x.asPair(0, 1, 2), -2);
        due.is("asPair(0, 1, -1)", x.asPair(0, 1, -1), -2);
    }

    private static void bears() {
        due.promise(40);
        DearPenFriend x = ofKind(0, 0);
        due.is("bears(0, 1, 0)", x.bears(0, 1, 0), 12);
        due.is("bears(0, 0, 0)", x.bears(0, 0, 0), 12);
        due.is("bears(0, 0, 1)", x.bears(0, 0, 1), -1);
        due.is("bears(0, 1, 534723)", x.bears(0, 1, 534723), 1);
        due.is("bears(1, 1, 534724)", x.bears(1, 1, 534724), 0);
        due.is("bears(0, 1, 583334)", x.bears(0, 1, 583334), 0);
        due.is("bears(0, 1, 583335)", x.bears(0, 1, 583335), -1);
        due.is("nothing is refused", Due.refusals(x), 0);
        due.is("nothing is changed", x.status(2), 1);
        due.is("bears(0, 13, 0)", x.bears(0, 13, 0), -2);
        due.is("bears(0, -1, 0)", x.bears(0, -1, 0), -2);
        due.is("bears(0, 0, 1000001)", x.bears(0, 0, 1000001), -2);
        due.is("bears(0, 0, -1)", x.bears(0, 0, -1), -2);
        due.is("bears(2, 0, 0)", x.bears(2, 0, 0), -2);
        x.part(0);
        due.is("bears(0, 0, 0), no friend", x.bears(0, 0, 0), -5);
    }

    private static void drift() {
        due.promise(41);
        // PUPIL 0 with a 2 and COPIER 1: 7, 7, 10, 10, 12, 12, 13, 13, 13
        DearPenFriend x = Due.with("pupil 0 2 0; pupil 5 0 1; likes 0 0; likes 1 0; pair 0 1");
        long[] lengths = {0, 7, 7, 10, 10, 12, 12, 13, 13, 13};
        for (int n = 0; n < lengths.length; n++) {
            due.is("drift(0, " + n + ")", x.drift(0, n), lengths[n]);
            due.is("drift(1, " + n + ")", x.drift(1, n), lengths[n]);
        }
        due.is("drift(0, 40)", x.drift(0, 40), 13);
        due.is("nothing is changed", x.status(6), 0);
        Due.live(x, 100);
        due.is("drift(0, 0), of him who doesn't owe", x.drift(0, 0), 7);
        due.is("drift(0, 2)", x.drift(0, 2), 10);
        due.is("drift(0, 41)", x.drift(0, 41), -2);
        due.is("drift(0, -1)", x.drift(0, -1), -2);
        due.is("drift(2, 0)", x.drift(2, 0), -2);
        x.part(0);
        due.is("drift(0, 0), no friend", x.drift(0, 0), -5);
        // ASHAMED, silent for 3 weeks: 5 less 3; he has written then
        x = ofKind(2, 0);
        silence(x, 3);
        due.is("drift of ASHAMED, 1", x.drift(0, 1), 2);
        due.is("drift of ASHAMED, 3: 5 and half of 10", x.drift(0, 3), 10);
    }
}
