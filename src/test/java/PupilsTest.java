/** Promises 9 to 13, 17 and 18: pupils, what they like, pairs, what is asked. */
public final class PupilsTest {
    private static final Due due = new Due("PupilsTest");

    public static void main(String[] args) {
        pupil();
        likes();
        pair();
        part();
        ask();
        pupilOf();
        common();
        due.end();
    }

    private static void pupil() {
        due.promise(9);
        DearPenFriend x = new DearPenFriend();
        int[][] bad = {{6, 0, 0}, {-1, 0, 0}, {0, 10, 0}, {0, -1, 0}, {0, 0, 2}, {0, 0, -1}};
        for (int[] b : bad) {
            due.is("pupil(" + b[0] + ", " + b[1] + ", " + b[2] + ")", x.pupil(b[0], b[1], b[2]), -2);
        }
        for (int i = 0; i < 12; i++) {
            due.is("pupil " + i, x.pupil(i % 6, i % 10, i % 2), i);
        }
        due.is("pupil, no room", x.pupil(0, 0, 0), -6);
        due.is("pupil(6, 0, 0), no room", x.pupil(6, 0, 0), -2);
        due.is("status(0)", x.status(0), 12);
        due.is("status(16)", x.status(16), 1);
        long[] first = {5, 9, 1, 0, -1, 0, 0, 0};
        x = new DearPenFriend();
        x.pupil(5, 9, 1);
        for (int what = 0; what < 8; what++) {
            due.is("pupilOf(0, " + what + "), a new one", x.pupilOf(0, what), first[what]);
        }
    }

    private static void likes() {
        due.promise(10);
        DearPenFriend x = new DearPenFriend();
        x.pupil(0, 0, 0);
        due.is("likes(0, 7, true)", x.likes(0, 7, true), 0);
        due.is("likes(0, 7, true) again", x.likes(0, 7, true), 1);
        due.is("likes(0, 0, true)", x.likes(0, 0, true), 0);
        due.is("pupilOf(0, 3)", x.pupilOf(0, 3), 129);
        due.is("likes(0, 7, false)", x.likes(0, 7, false), 1);
        due.is("likes(0, 7, false) again", x.likes(0, 7, false), 0);
        due.is("pupilOf(0, 3)", x.pupilOf(0, 3), 1);
        due.is("likes(0, 8, true)", x.likes(0, 8, true), -2);
        due.is("likes(0, -1, true)", x.likes(0, -1, true), -2);
        due.is("likes(1, 0, true)", x.likes(1, 0, true), -2);
        due.is("likes(-1, 0, true)", x.likes(-1, 0, true), -2);
        due.is("pupilOf(0, 3)", x.pupilOf(0, 3), 1);
    }

    private static void pair() {
        due.promise(11);
        DearPenFriend x = Due.with("pupil 0 0 0; pupil 0 0 1; pupil 0 0 0; pupil 0 0 1; likes 0 1; likes 1 1; likes 0 4; likes 1 4; likes 0 5");
        due.is("pair(1, 0), the wrong way", x.pair(1, 0), -5);
        due.is("pair(0, 2), of one school", x.pair(0, 2), -5);
        due.is("pair(1, 3), of one school", x.pair(1, 3), -5);
        due.is("pair(0, 0)", x.pair(0, 0), -5);
        due.is("pair(0, 4)", x.pair(0, 4), -2);
        due.is("pair(-1, 1)", x.pair(-1, 1), -2);
        due.is("pair(0, 1)", x.pair(0, 1), 2);
        due.is("friend of 0", x.pupilOf(0, 4), 1);
        due.is("friend of 1", x.pupilOf(1, 4), 0);
        due.is("0 owes", x.pupilOf(0, 5), 1);
        due.is("1 doesn't owe", x.pupilOf(1, 5), 0);
        due.is("pair(0, 3), has a friend", x.pair(0, 3), -5);
        due.is("pair(2, 1), has a friend", x.pair(2, 1), -5);
        due.is("pair(2, 3)", x.pair(2, 3), 0);
        due.is("status(1)", x.status(1), 2);
    }

    private static void part() {
        due.promise(12);
        DearPenFriend x = Due.with("pupil 0 0 0; pupil 0 0 1; pair 0 1");
        Due.live(x, 300, 100, 301);
        due.is("lengths ahead", x.status(6), 5);
        due.is("part(1)", x.part(1), 0);
        for (int one = 0; one < 2; one++) {
            due.is("friend of " + one, x.pupilOf(one, 4), -1);
            due.is("owes " + one, x.pupilOf(one, 5), 0);
            due.is("silent " + one, x.pupilOf(one, 6), 0);
            due.is("length " + one, x.pupilOf(one, 7), 0);
        }
        due.is("part(1), no friend", x.part(1), -5);
        due.is("part(2)", x.part(2), -2);
        due.is("part(-1)", x.part(-1), -2);
        x.pair(0, 1);
        Due.live(x, 300, 300);
        due.is("part(0)", x.part(0), 1);
        due.is("silent 0", x.pupilOf(0, 6), 0);
        due.is("status(1)", x.status(1), 0);
    }

    private static void ask() {
        due.promise(13);
        DearPenFriend x = new DearPenFriend();
        due.is("ask(0, 12)", x.ask(0, 12), 1);
        due.is("ask(0, 0)", x.ask(0, 0), 12);
        due.is("ask(1, 9)", x.ask(1, 9), 1);
        due.is("ask(1, 0)", x.ask(1, 0), 9);
        due.is("ask(2, 1)", x.ask(2, 1), 0);
        due.is("ask(2, 0)", x.ask(2, 0), 1);
        due.is("ask(2, 1)", x.ask(2, 1), 0);
        int[][] bad = {{0, 13}, {0, -1}, {1, 10}, {1, -1}, {2, 2}, {2, -1}, {3, 0}, {-1, 0}};
        for (int[] b : bad) {
            due.is("ask(" + b[0] + ", " + b[1] + ")", x.ask(b[0], b[1]), -2);
        }
        due.is("status(2)", x.status(2), 0);
        due.is("status(3)", x.status(3), 0);
        due.is("status(4)", x.status(4), 1);
    }

    private static void pupilOf() {
        due.promise(17);
        DearPenFriend x = Due.with("pupil 3 7 0; pupil 2 4 1; likes 0 2; likes 1 2; pair 0 1");
        Due.live(x, 100, 301, 301);
        // LINES of WINDY 0: 2 times (5 and 7), and 5
        long[] zero = {3, 7, 0, 4, 1, 0, 0, 29};
        long[] one = {2, 4, 1, 4, 0, 1, 2, 0};
        for (int what = 0; what < 8; what++) {
            due.is("pupilOf(0, " + what + ")", x.pupilOf(0, what), zero[what]);
            due.is("pupilOf(1, " + what + ")", x.pupilOf(1, what), one[what]);
        }
        due.is("pupilOf(0, 8)", x.pupilOf(0, 8), -2);
        due.is("pupilOf(0, -1)", x.pupilOf(0, -1), -2);
        due.is("pupilOf(2, 0)", x.pupilOf(2, 0), -2);
        due.is("pupilOf(-1, 0)", x.pupilOf(-1, 0), -2);
        due.is("status(12)", x.status(12), 4);
    }

    private static void common() {
        due.promise(18);
        DearPenFriend x = Due.with("pupil 0 0 0; pupil 0 0 1; pupil 0 0 0; likes 0 0; likes 0 3; likes 0 7; likes 1 3; likes 1 7; likes 1 6; likes 2 0");
        due.is("common(0, 1)", x.common(0, 1), 2);
        due.is("common(1, 0)", x.common(1, 0), 2);
        due.is("common(0, 2), of one school", x.common(0, 2), 1);
        due.is("common(1, 2)", x.common(1, 2), 0);
        due.is("common(0, 0)", x.common(0, 0), 3);
        due.is("common(0, 3)", x.common(0, 3), -2);
        due.is("common(-1, 0)", x.common(-1, 0), -2);
    }
}
