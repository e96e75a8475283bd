/** Promises 49 and 51 to 54: weeks in truth, seeds, images, what stands. */
public final class TruthTest {
    private static final Due due = new Due("TruthTest");

    public static void main(String[] args) {
        weeks();
        weeksByDraws();
        seed();
        image();
        back();
        status();
        due.end();
    }

    private static void weeks() {
        due.promise(49);
        DearPenFriend x = new DearPenFriend();
        due.is("weeks(1), no pairs", x.weeks(1), 0);
        due.is("weeks(99), no pairs", x.weeks(99), 0);
        due.is("status(5)", x.status(5), 100);
        due.is("no draws", x.status(8), 1);
        due.is("weeks(0)", x.weeks(0), -2);
        due.is("weeks(100)", x.weeks(100), -2);
        due.is("weeks(-1)", x.weeks(-1), -2);
        due.is("status(5)", x.status(5), 100);
        // a WILL of 12 and no LOSS: a letter each week
        x = Due.with("pupil 1 0 0; pupil 1 0 1; pair 0 1; loss 0; toil 0");
        for (int bit = 0; bit < 4; bit++) {
            x.likes(0, bit, true);
            x.likes(1, bit, true);
        }
        due.is("weeks(7)", x.weeks(7), 7);
        due.is("1 owes", x.pupilOf(1, 5), 1);
        x.ask(0, 12);
        due.is("weeks(5), all lost", x.weeks(5), 0);
        due.is("1 owes still", x.pupilOf(1, 5), 1);
        due.is("and isn't silent", x.pupilOf(1, 6), 0);
        // a WILL of 0: silence
        x = Due.with("pupil 4 0 0; pupil 0 0 1; pair 0 1; loss 0");
        due.is("weeks(9), never", x.weeks(9), 0);
        due.is("silent", x.pupilOf(0, 6), 9);
        due.is("weeks(99), never", x.weeks(99), 0);
        due.is("silent, 99 at most", x.pupilOf(0, 6), 99);
    }

    private static int drawn = 0;

    private static int draw() {
        drawn = drawn * 1103515245 + 12345;
        return (drawn >>> 16) % 12;
    }

    /** Two pairs by hand, the first a PUPIL who doesn't owe second in numbers. */
    private static void weeksByDraws() {
        DearPenFriend x = Due.with("pupil 0 0 1; pupil 0 0 0; pupil 2 3 0; pupil 5 3 1; likes 1 0; likes 0 0; loss 5; pair 2 3; pair 1 0");
        x.seed(77);
        drawn = 77;
        int[] owner = {1, 2};
        int[][] two = {{1, 0}, {2, 3}};
        int came = 0;
        for (int week = 1; week <= 60; week++) {
            for (int p = 0; p < 2; p++) {
                int one = owner[p];
                int will = x.will(one, 0);
                if (draw() < will && draw() >= 5) {
                    came++;
                    owner[p] = one == two[p][0] ? two[p][1] : two[p][0];
                }
            }
            came -= x.weeks(1);
            due.is("came less what is due, week " + week, came, 0);
            due.is("seed, week " + week, x.status(8), drawn);
            due.is("owing, week " + week, x.owing(), (1 << owner[0]) | (1 << owner[1]));
            due.is("status(5)", x.status(5), week);
        }
        x = Due.with("pupil 0 0 0; pupil 0 0 1; pair 0 1; loss 0");
        // SEED 1 draws 16838 modulo 12, 2; WILL is 3: he writes; the second draws 38526, modulo 12 is 6
        due.is("weeks(1) of SEED 1", x.weeks(1), 1);
        due.is("two draws", x.status(8), -1770082073);
    }

    private static void seed() {
        due.promise(51);
        DearPenFriend x = new DearPenFriend();
        due.is("seed(5)", x.seed(5), 1);
        due.is("seed, the least", x.seed(Integer.MIN_VALUE), 5);
        due.is("seed(-1)", x.seed(-1), Integer.MIN_VALUE);
        due.is("status(8)", x.status(8), -1);
        due.is("refusals", Due.refusals(x), 0);
    }

    private static void image() {
        due.promise(52);
        DearPenFriend x = Due.with("pupil 3 7 0; pupil 2 4 1; likes 0 2; likes 1 2; pair 0 1; loss 2; toil 0; friday 1");
        x.weeks(3);
        Due.live(x, x.pupilOf(0, 5) == 1 ? 200 : 201);
        long[] before = picture(x);
        due.is("image()", x.image(), 1);
        same(x, before, "after image");
        Due.list(x, "likes 0 4; part 0; pupil 0 0 1; pair 0 2; loss 9; toil 9; friday 0");
        x.weeks(5);
        x.seed(3);
        due.is("back()", x.back(), 1);
        same(x, before, "after back");
        x.part(0);
        due.is("back() once more", x.back(), 1);
        same(x, before, "after back once more");
        x.part(0);
        due.is("image() anew", x.image(), 1);
        x.pair(0, 1);
        due.is("back()", x.back(), 1);
        due.is("status(1)", x.status(1), 0);
    }

    private static long[] picture(DearPenFriend x) {
        long[] seen = new long[2 * 8 + 9];
        for (int i = 0; i < 16; i++) {
            seen[i] = x.pupilOf(i / 8, i % 8);
        }
        for (int what = 0; what < 9; what++) {
            seen[16 + what] = x.status(what);
        }
        return seen;
    }

    private static void same(DearPenFriend x, long[] before, String when) {
        long[] seen = picture(x);
        for (int i = 0; i < seen.length; i++) {
            due.is("picture " + i + " " + when, seen[i], before[i]);
        }
    }

    private static void back() {
        due.promise(53);
        DearPenFriend x = new DearPenFriend();
        due.is("back()", x.back(), -5);
        due.is("status(15)", x.status(15), 1);
        x.pupil(0, 0, 0);
        x.show(3, 0);
        x.image();
        x.pupil(1, 5, 1);
        x.show(0, 0);
        x.show(1, 1);
        x.show(3, -1);
        x.row(2, 1, 3);
        x.set(2, 2, 5);
        Due.feed(x, "abc");
        x.seed(8);
        x.pupil(9, 0, 0);
        due.is("back()", x.back(), 1);
        due.is("holds(0), the same number", x.holds(0), 10);
        due.is("holds(1), no such pupil", x.holds(1), -1);
        due.is("holds(2), a row", x.holds(2), 1);
        due.is("element(2, 2)", x.element(2, 2), 5);
        due.is("holds(3), shelves aren't kept", x.holds(3), -1);
        due.is("status(7), nor is the tape", x.status(7), 3);
        due.is("status(12), nor are refusals", x.status(12), 1);
        due.is("status(8)", x.status(8), 1);
        due.is("status(0)", x.status(0), 1);
        due.is("the next pupil", x.pupil(0, 3, 1), 1);
        due.is("holds(1), nothing yet", x.holds(1), -1);
        due.is("says of him who was kept", x.says(0, 0), 0);
        due.is("a new one likes nothing", x.pupilOf(1, 3), 0);
    }

    private static void status() {
        due.promise(54);
        DearPenFriend x = Due.with("pupil 0 0 0; pupil 0 0 1; pupil 0 0 0; pair 0 1; loss 2; toil 3; friday 1");
        x.weeks(4);
        Due.live(x, x.pupilOf(0, 5) == 1 ? 200 : 201);
        x.seed(-9);
        Due.feed(x, "abcde");
        x.row(0, 0, 1);
        x.show(4, 2);
        long[] due0 = {3, 1, 2, 3, 1, 4, x.pupilOf(0, 7) + x.pupilOf(1, 7), 5, -9, 2};
        for (int what = 0; what < due0.length; what++) {
            due.is("status(" + what + ")", x.status(what), due0[what]);
        }
        x.wipe();
        x.pupil(6, 0, 0);
        x.list();
        x.set(4, 0, 0);
        x.says(0, 0);
        x.element(9, 9);
        x.set(5, 0, 0);
        x.part(2);
        x.best(9);
        for (int i = 0; i < 10; i++) {
            x.pupil(0, 0, 0);
        }
        long[] refused = {3, 2, 1, 1, 1};
        for (int i = 0; i < refused.length; i++) {
            due.is("status(" + (12 + i) + ")", x.status(12 + i), refused[i]);
        }
        int[] others = {-1, 10, 11, 17, Integer.MIN_VALUE, Integer.MAX_VALUE};
        for (int what : others) {
            due.is("status(" + what + ")", x.status(what), -1);
        }
        due.is("status is never refused", x.status(12), 3);
    }
}
