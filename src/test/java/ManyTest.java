/** Promises 28 to 34 and 42 to 44: all pairs together, all pupils together. */
public final class ManyTest {
    private static final Due due = new Due("ManyTest");
    /** PROUD 0 never writes to 1; 2 writes to 3 by WILL 5, 4 to 5 by WILL 3; 6 is alone. */
    private static final String THREE = "pupil 4 0 0; pupil 0 0 1; pupil 0 0 0; pupil 0 9 1; pupil 0 0 0; pupil 0 0 1; pupil 0 0 0;"
        + "likes 2 0; likes 3 0; pair 0 1; pair 2 3; pair 4 5";

    public static void main(String[] args) {
        may();
        fridays();
        tongue();
        first();
        mean();
        weakest();
        with();
        alike();
        keen();
        owing();
        due.end();
    }

    private static void may() {
        due.promise(28);
        due.is("may(), none", new DearPenFriend().may(), 0);
        DearPenFriend x = Due.with(THREE);
        due.is("may()", x.may(), 2);
        x.ask(1, 4);
        due.is("may(), TOIL 4", x.may(), 1);
        x.ask(2, 1);
        due.is("may(), FRIDAY", x.may(), 3);
        x.part(0);
        due.is("may(), two pairs", x.may(), 2);
    }

    /** STILL after 4 weeks at these WILLS, LOSS 1. */
    private static int stillAt(int... wills) {
        int missing = 1000000;
        for (int will : wills) {
            missing = missing * (144 - 11 * will) / 144;
        }
        return 1000000 - missing;
    }

    private static void fridays() {
        due.promise(29);
        due.is("fridays(), none", new DearPenFriend().fridays(), 0);
        DearPenFriend x = Due.with(THREE);
        int more = stillAt(2, 2, 2, 2) + stillAt(7, 7, 7, 6) - stillAt(5, 5, 5, 4) + stillAt(5, 5, 5, 4) - stillAt(3, 3, 3, 2);
        due.is("fridays()", x.fridays(), more);
        x.ask(2, 1);
        due.is("fridays(), on FRIDAY", x.fridays(), more);
        due.is("nothing is changed", x.status(4), 1);
        due.is("fridays() of one", Due.with("pupil 0 0 0; pupil 0 0 1; pair 0 1; toil 9").fridays(), 0);
    }

    private static void tongue() {
        due.promise(30);
        DearPenFriend x = Due.with("pupil 0 0 0; pupil 0 0 1; pupil 0 0 0; pupil 0 0 1; likes 0 0; likes 1 0; pair 0 1");
        due.is("tongue()", x.tongue(), 5);
        x.pair(2, 3);
        due.is("tongue(), of two pairs", x.tongue(), 3);
        due.is("nothing is changed", x.status(3), 1);
        due.is("tongue(), PROUD with 0", Due.with(THREE).tongue(), -1);
        due.is("tongue(), no pairs", new DearPenFriend().tongue(), 9);
        x = Due.with("pupil 0 0 0; pupil 0 0 1; likes 0 0; likes 1 0; likes 0 1; likes 1 1; likes 0 2; likes 1 2; pair 0 1");
        due.is("tongue(), COMMON 3", x.tongue(), 9);
        x = Due.with("pupil 2 0 0; pupil 0 0 1; pair 0 1");
        Due.live(x, 300, 300, 300);
        due.is("tongue(), ASHAMED and silent for 3", x.tongue(), -1);
        due.is("nothing is refused", Due.refusals(x), 0);
        x = Due.with("pupil 0 0 0; pupil 0 0 1; pair 0 1");
        for (int i = 0; i < 9; i++) {
            Due.live(x, 300);
        }
        due.is("tongue(), 4 less 3", x.tongue(), 0);
    }

    private static void first() {
        due.promise(31);
        DearPenFriend x = Due.with(THREE + "; likes 6 1; likes 6 2; likes 5 3; likes 5 4");
        due.is("first(0, 0), no letters", x.first(0, 0), 0);
        due.is("first(1, 0), no letters", x.first(1, 0), 1);
        due.is("first(0, 2)", x.first(0, 2), 6);
        due.is("first(1, 2)", x.first(1, 2), 5);
        Due.live(x, 304, 104, 102, 303, 303, 305);
        due.is("first(0, 0), of several the first", x.first(0, 0), 2);
        due.is("first(1, 1)", x.first(1, 1), 3);
        due.is("first(0, 1)", x.first(0, 1), 0);
        Due.live(x, 103);
        due.is("first(1, 0)", x.first(1, 0), 3);
        due.is("first(1, 1)", x.first(1, 1), 5);
        due.is("first(2, 0)", x.first(2, 0), -2);
        due.is("first(-1, 0)", x.first(-1, 0), -2);
        due.is("first(0, 3)", x.first(0, 3), -2);
        due.is("first(0, -1)", x.first(0, -1), -2);
        x = Due.with("pupil 0 0 0");
        due.is("first(1, 0), nobody", x.first(1, 0), -5);
        due.is("first(1, 3), nobody", x.first(1, 3), -2);
    }

    private static void mean() {
        due.promise(32);
        due.is("mean(), none", new DearPenFriend().mean(), -5);
        DearPenFriend x = Due.with(THREE);
        due.is("mean()", x.mean(), 333);
        Due.list(x, "likes 4 1; likes 5 1");
        due.is("mean(), 2 by 3", x.mean(), 666);
        x.part(1);
        due.is("mean(), 2 by 2", x.mean(), 1000);
        x.part(2);
        x.part(4);
        due.is("mean(), all parted", x.mean(), -5);
    }

    private static void weakest() {
        due.promise(33);
        DearPenFriend x = Due.with(THREE);
        due.is("weakest(0), of several the first", x.weakest(0), 0);
        due.is("weakest(1)", x.weakest(1), 0);
        x.part(0);
        due.is("weakest(0)", x.weakest(0), 2);
        due.is("weakest(1)", x.weakest(1), 4);
        due.is("weakest(12)", x.weakest(12), 4);
        due.is("weakest(13)", x.weakest(13), -2);
        due.is("weakest(-1)", x.weakest(-1), -2);
        x.part(2);
        x.part(4);
        due.is("weakest(1), none", x.weakest(1), -5);
        due.is("weakest(13), none", x.weakest(13), -2);
    }

    private static void with() {
        due.promise(34);
        DearPenFriend x = Due.with("pupil 0 0 0; pupil 0 0 1; pupil 0 0 0; likes 0 7; likes 2 0");
        due.is("with(0)", x.with(0), 2);
        due.is("with(1)", x.with(1), 5);
        due.is("with(2)", x.with(2), 0);
        for (int bit = 0; bit < 8; bit++) {
            x.likes(1, bit, true);
        }
        due.is("with(8)", x.with(8), 2);
        due.is("with(9)", x.with(9), -2);
        due.is("with(-1)", x.with(-1), -2);
        due.is("with(0), nobody", new DearPenFriend().with(0), 0);
    }

    private static void alike() {
        due.promise(42);
        due.is("alike(), none", new DearPenFriend().alike(), 0);
        DearPenFriend x = Due.with(THREE);
        due.is("alike(), no letters", x.alike(), 3);
        Due.live(x, 102, 104);
        due.is("alike(), two have written", x.alike(), 1);
        // half of 5 is 2 more than 5; and then COPIER
        Due.live(x, 105);
        due.is("alike(), 5 and 7", x.alike(), 1);
        x = Due.with("pupil 0 0 0; pupil 5 0 1; pair 0 1");
        Due.live(x, 100);
        due.is("alike(), 5 and 0", x.alike(), 0);
        Due.live(x, 101);
        due.is("alike(), copied", x.alike(), 1);
    }

    private static void keen() {
        due.promise(43);
        due.is("keen(), nobody", new DearPenFriend().keen(), -5);
        DearPenFriend x = Due.with(THREE);
        due.is("keen()", x.keen(), 2);
        Due.list(x, "likes 4 1; likes 5 1");
        due.is("keen(), of several the first", x.keen(), 2);
        x.part(2);
        due.is("keen()", x.keen(), 4);
        x.part(4);
        due.is("keen(), WILL 0", x.keen(), 0);
        // 1 doesn't owe, though he would
        due.is("owing()", x.owing(), 1);
        x.part(0);
        due.is("keen(), nobody", x.keen(), -5);
    }

    private static void owing() {
        due.promise(44);
        due.is("owing(), nobody", new DearPenFriend().owing(), 0);
        DearPenFriend x = Due.with(THREE);
        due.is("owing()", x.owing(), 1 + 4 + 16);
        Due.live(x, 102, 204);
        due.is("owing(), one letter came, one was lost", x.owing(), 1 + 8 + 16);
        x.part(3);
        due.is("owing(), parted", x.owing(), 1 + 16);
    }
}
