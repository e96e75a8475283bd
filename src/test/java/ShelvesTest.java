/** Promises 1 to 8: a new object, rows, shelves. */
public final class ShelvesTest {
    private static final Due due = new Due("ShelvesTest");

    public static void main(String[] args) {
        aNewObject();
        row();
        set();
        copy();
        copyRefused();
        elementAndHolds();
        show();
        says();
        due.end();
    }

    private static void aNewObject() {
        due.promise(1);
        DearPenFriend x = new DearPenFriend();
        long[] status = {0, 0, 1, 1, 0, 0, 0, 0, 1, 0};
        for (int what = 0; what < status.length; what++) {
            due.is("status(" + what + ")", x.status(what), status[what]);
        }
        for (int s = 0; s < 8; s++) {
            due.is("holds(" + s + ")", x.holds(s), -1);
        }
        due.is("refusals", Due.refusals(x), 0);
        due.is("back()", x.back(), -5);
    }

    private static void row() {
        due.promise(2);
        DearPenFriend x = new DearPenFriend();
        due.is("row(0, 0, 0)", x.row(0, 0, 0), 1);
        due.is("row(7, 4, 40)", x.row(7, 4, 40), 1);
        due.is("holds(0)", x.holds(0), 0);
        due.is("holds(7)", x.holds(7), 4);
        due.is("set(7, 39, 1)", x.set(7, 39, 1), 1);
        int[][] bad = {{8, 0, 0}, {-1, 0, 0}, {0, 5, 0}, {0, -1, 0}, {0, 0, 41}, {0, 0, -1}, {Integer.MIN_VALUE, 0, 0}};
        for (int[] b : bad) {
            due.is("row(" + b[0] + ", " + b[1] + ", " + b[2] + ")", x.row(b[0], b[1], b[2]), -2);
        }
        due.is("status(12)", x.status(12), bad.length);
        due.is("holds(0), row refused", x.holds(0), 0);
        x.set(7, 0, 1);
        due.is("row(7, 3, 40)", x.row(7, 3, 40), 1);
        due.is("element(7, 0), a new row", x.element(7, 0), 0);
        due.is("element(7, 39), a new row", x.element(7, 39), 0);
        due.is("holds(7)", x.holds(7), 3);
    }

    private static void set() {
        due.promise(3);
        DearPenFriend x = new DearPenFriend();
        long wide = 0x1234567890ABCDEFL;
        long[] kept = {(byte) 0xEF, (short) 0xCDEF, 0x90ABCDEF, wide, 1};
        for (int sort = 0; sort < 5; sort++) {
            x.row(sort, sort, 2);
            due.is("set in a row of sort " + sort, x.set(sort, 1, wide), 1);
            due.is("element of sort " + sort, x.element(sort, 1), kept[sort]);
            due.is("its neighbour", x.element(sort, 0), 0);
        }
        due.is("set(4, 1, 256)", x.set(4, 1, 256), 1);
        due.is("a boolean of 256", x.element(4, 1), 1);
        x.set(4, 1, 0);
        due.is("a boolean of 0", x.element(4, 1), 0);
        x.pupil(0, 0, 0);
        x.show(5, 0);
        due.is("set(8, 9, 0)", x.set(8, 9, 0), -2);
        due.is("set(5, 9, 0), a pupil", x.set(5, 9, 0), -3);
        due.is("set(6, 9, 0), nothing", x.set(6, 9, 0), -4);
        due.is("set(0, 2, 0)", x.set(0, 2, 0), -2);
        due.is("set(0, -1, 0)", x.set(0, -1, 0), -2);
        due.is("status(12)", x.status(12), 3);
        due.is("status(13)", x.status(13), 1);
        due.is("status(14)", x.status(14), 1);
    }

    private static void copy() {
        due.promise(4);
        DearPenFriend x = new DearPenFriend();
        x.row(0, 1, 5);
        x.row(1, 1, 3);
        for (int i = 0; i < 5; i++) {
            x.set(0, i, 10 + i);
        }
        due.is("copy(0, 1, 2, 1, 2)", x.copy(0, 1, 2, 1, 2), 2);
        due.is("element(1, 0)", x.element(1, 0), 0);
        due.is("element(1, 1)", x.element(1, 1), 12);
        due.is("element(1, 2)", x.element(1, 2), 13);
        due.is("copy(0, 0, 0, 1, 4), on itself", x.copy(0, 0, 0, 1, 4), 4);
        for (int i = 1; i < 5; i++) {
            due.is("element(0, " + i + ")", x.element(0, i), 9 + i);
        }
        due.is("copy(0, 0, 1, 0, 4), on itself", x.copy(0, 0, 1, 0, 4), 4);
        due.is("element(0, 0)", x.element(0, 0), 10);
        due.is("element(0, 3)", x.element(0, 3), 13);
        due.is("copy(0, 1, 5, 3, 0), none", x.copy(0, 1, 5, 3, 0), 0);
    }

    private static void copyRefused() {
        DearPenFriend x = new DearPenFriend();
        x.row(0, 1, 5);
        x.row(1, 1, 3);
        x.row(2, 2, 5);
        x.pupil(0, 0, 0);
        x.show(3, 0);
        due.is("copy(8, 3, ..)", x.copy(8, 3, 0, 0, 1), -2);
        due.is("copy(3, -1, ..)", x.copy(3, -1, 0, 0, 1), -2);
        due.is("copy(3, 4, ..), a pupil and nothing", x.copy(3, 4, 0, 0, 1), -3);
        due.is("copy(4, 3, ..), nothing and a pupil", x.copy(4, 3, 0, 0, 1), -3);
        due.is("copy(0, 2, ..), two sorts", x.copy(0, 2, 99, 0, 1), -3);
        due.is("copy(0, 4, ..), nothing", x.copy(0, 4, 99, 0, 1), -4);
        due.is("copy(4, 0, ..), nothing", x.copy(4, 0, 99, 0, 1), -4);
        int max = Integer.MAX_VALUE;
        int[][] bad = {{-1, 0, 1}, {0, -1, 1}, {0, 0, -1}, {5, 0, 1}, {0, 3, 1}, {0, 0, 4}, {6, 0, 0}, {0, 4, 0}, {1, 1, max}, {max, 0, max}};
        for (int[] b : bad) {
            due.is("copy(0, 1, " + b[0] + ", " + b[1] + ", " + b[2] + ")", x.copy(0, 1, b[0], b[1], b[2]), -2);
        }
    }

    private static void elementAndHolds() {
        due.promise(5);
        DearPenFriend x = new DearPenFriend();
        x.row(0, 3, 2);
        x.set(0, 1, Long.MIN_VALUE);
        x.pupil(0, 0, 0);
        x.pupil(0, 0, 0);
        x.show(1, 1);
        due.is("element(0, 1)", x.element(0, 1), Long.MIN_VALUE);
        int[][] none = {{0, 2}, {0, -1}, {1, 0}, {2, 0}, {8, 0}, {-1, 0}, {0, Integer.MAX_VALUE}};
        for (int[] n : none) {
            due.is("element(" + n[0] + ", " + n[1] + ")", x.element(n[0], n[1]), 0);
        }
        x.row(0, 3, 2);
        x.show(0, -1);
        due.is("element(0, 1), nothing there now", x.element(0, 1), 0);
        due.promise(6);
        due.is("holds(1)", x.holds(1), 11);
        due.is("holds(2)", x.holds(2), -1);
        due.is("holds(8)", x.holds(8), -1);
        due.is("holds(-1)", x.holds(-1), -1);
        due.is("nothing is refused", Due.refusals(x), 0);
    }

    private static void show() {
        due.promise(7);
        DearPenFriend x = new DearPenFriend();
        x.pupil(0, 0, 0);
        x.row(0, 3, 2);
        due.is("show(0, 0)", x.show(0, 0), 1);
        due.is("holds(0)", x.holds(0), 10);
        due.is("show(7, 0)", x.show(7, 0), 1);
        due.is("status(9)", x.status(9), 2);
        due.is("show(0, 1)", x.show(0, 1), -2);
        due.is("show(0, -2)", x.show(0, -2), -2);
        due.is("show(8, 0)", x.show(8, 0), -2);
        due.is("show(8, -1)", x.show(8, -1), -2);
        due.is("holds(0), still", x.holds(0), 10);
        due.is("show(0, -1)", x.show(0, -1), 1);
        due.is("holds(0), nothing", x.holds(0), -1);
        due.is("status(9)", x.status(9), 1);
    }

    private static void says() {
        due.promise(8);
        // WINDY 0 and PROUD 1 are a pair with COMMON 2; COPIER 2 has no FRIEND
        DearPenFriend x = Due.with("pupil 3 2 0; pupil 4 6 1; pupil 5 0 0; likes 0 0; likes 0 3; likes 1 0; likes 1 3; likes 1 7; pair 0 1");
        x.row(3, 0, 1);
        x.show(0, 0);
        x.show(1, 1);
        x.show(2, 2);
        due.is("WINDY as a PUPIL", x.says(0, 0), 9);
        due.is("WINDY as LONG", x.says(0, 1), 19);
        due.is("WINDY as WINDY", x.says(0, 3), 19);
        due.is("WINDY as ASHAMED", x.says(0, 2), -3);
        due.is("WINDY as PROUD", x.says(0, 4), -3);
        due.is("WINDY as COPIER", x.says(0, 5), -3);
        due.is("PROUD as a PUPIL", x.says(1, 0), 137);
        due.is("PROUD as ASHAMED", x.says(1, 2), 7);
        due.is("PROUD as PROUD", x.says(1, 4), 7);
        due.is("PROUD as LONG", x.says(1, 1), -3);
        due.is("COPIER without FRIEND", x.says(2, 5), 0);
        x.part(0);
        due.is("WINDY without FRIEND", x.says(0, 3), 0);
        due.is("PROUD without FRIEND", x.says(1, 4), 0);
        due.is("says(8, 0)", x.says(8, 0), -2);
        due.is("says(3, 6)", x.says(3, 6), -2);
        due.is("says(4, -1)", x.says(4, -1), -2);
        due.is("a row says", x.says(3, 0), -3);
        due.is("nothing says", x.says(4, 0), -4);
        x.pupil(1, 0, 0);
        x.show(4, 3);
        due.is("LONG as WINDY", x.says(4, 3), -3);
        due.is("LONG as LONG", x.says(4, 1), 0);
        x.pupil(2, 0, 0);
        x.show(4, 4);
        due.is("ASHAMED as PROUD", x.says(4, 4), -3);
    }
}
