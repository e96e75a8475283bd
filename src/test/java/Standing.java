import java.lang.reflect.InvocationTargetException;
import java.lang.reflect.Method;
import java.util.Arrays;
import java.util.LinkedHashMap;
import java.util.Map;
import java.util.function.Supplier;

/**
 * An object in which something of everything stands, and the comparison of two made alike, of which only one
 * gets a call: whatever the call changes can be seen, the tape's bytes and the kept image too.
 */
final class Standing {
    private static final Map<String, Method> FACE = new LinkedHashMap<>();

    static {
        for (Method m : DearPenFriend.class.getMethods()) {
            if (m.getDeclaringClass() == DearPenFriend.class) {
                FACE.put(m.getName(), m);
            }
        }
    }

    private final Due due;
    private final Supplier<DearPenFriend> made;

    Standing(Due due, Supplier<DearPenFriend> made) {
        this.due = due;
        this.made = made;
    }

    /**
     * Pairs 0 (WINDY, who owes) with 1 (PROUD), 4 (ASHAMED) with 5 (COPIER, who owes); 2 (PUPIL) and 3 (LONG) are free.
     * Shelves: 0 ints 300 301 1 0 7, 1 bytes 1 0 1, 2 pupil 4, 3 booleans 1 0, 4 nothing, 5 pupil 2,
     * 6 ints, but none, 7 ints. The tape holds a list that may be; an image is kept in which nobody has a friend.
     */
    static DearPenFriend rich() {
        DearPenFriend x = new DearPenFriend();
        int[][] pupils = {{3, 3, 0}, {4, 4, 1}, {0, 0, 0}, {1, 2, 1}, {2, 5, 0}, {5, 6, 1}};
        for (int[] p : pupils) {
            x.pupil(p[0], p[1], p[2]);
        }
        int[][] likes = {{0, 0}, {0, 1}, {1, 0}, {1, 1}, {2, 2}, {3, 2}, {3, 3}, {4, 4}, {5, 4}};
        for (int[] l : likes) {
            x.likes(l[0], l[1], true);
        }
        x.ask(0, 2);
        x.weeks(2);
        x.image();
        x.pair(0, 1);
        x.pair(4, 5);
        Due.tell(x, 7, 104, 305, 300, 300, 200);
        x.done(7, 5);
        x.ask(1, 0);
        x.ask(2, 1);
        x.seed(77);
        Due.tell(x, 0, 300, 301, 1, 0, 7);
        x.row(1, 0, 3);
        x.set(1, 0, 1);
        x.set(1, 2, 1);
        x.show(2, 4);
        x.row(3, 4, 2);
        x.set(3, 0, 1);
        x.show(5, 2);
        x.row(6, 2, 0);
        Due.feed(x, "toil 5;part 0");
        x.part(99);
        x.set(2, 0, 0);
        x.set(4, 0, 0);
        x.part(2);
        return x;
    }

    /** Twelve pupils, all but two of them paired. */
    static DearPenFriend full() {
        DearPenFriend x = new DearPenFriend();
        for (int i = 0; i < 12; i++) {
            x.pupil(i % 6, i % 10, i % 2);
        }
        for (int i = 0; i < 10; i += 2) {
            x.pair(i, i + 1);
        }
        return x;
    }

    /** A tape that has no room left, and one pupil. */
    static DearPenFriend fedUp() {
        DearPenFriend x = new DearPenFriend();
        x.pupil(0, 0, 0);
        Due.feed(x, "likes 0 3");
        for (int i = 9; i < 250; i++) {
            x.feed(' ');
        }
        return x;
    }

    static long call(DearPenFriend x, String name, long... given) {
        Method m = FACE.get(name);
        Class<?>[] types = m.getParameterTypes();
        if (types.length != given.length) {
            throw new IllegalStateException("the test's own call is wrong: " + name + Arrays.toString(given));
        }
        Object[] fit = new Object[given.length];
        for (int i = 0; i < given.length; i++) {
            if (types[i] == boolean.class) {
                fit[i] = given[i] != 0;
            } else if (types[i] == long.class) {
                fit[i] = given[i];
            } else {
                fit[i] = Math.toIntExact(given[i]);
            }
        }
        try {
            return ((Number) m.invoke(x, fit)).longValue();
        } catch (InvocationTargetException | IllegalAccessException e) {
            throw new IllegalStateException(told(name, given) + " threw", e);
        }
    }

    static String told(String name, long... given) {
        String args = Arrays.toString(given);
        return name + "(" + args.substring(1, args.length() - 1) + ")";
    }

    /** The call answers the number, one refusal more of that number is counted, and nothing else changes. */
    void refused(int number, String name, long... given) {
        DearPenFriend x = made.get();
        DearPenFriend same = made.get();
        due.is(told(name, given), call(x, name, given), number);
        Map<String, Long> want = picture(same);
        want.merge("status(" + (10 - number) + ")", 1L, Long::sum);
        compare(told(name, given), picture(x), want);
    }

    /** The call answers what is due, and nothing changes at all. */
    void asked(long answer, String name, long... given) {
        DearPenFriend x = made.get();
        due.is(told(name, given), call(x, name, given), answer);
        compare(told(name, given), picture(x), picture(made.get()));
    }

    /** The call isn't refused, and nothing changes at all. */
    void unchanged(String name, long... given) {
        DearPenFriend x = made.get();
        call(x, name, given);
        compare(told(name, given), picture(x), picture(made.get()));
    }

    /** The call answers what is due, whatever it changes, and isn't refused. */
    void taken(long answer, String name, long... given) {
        DearPenFriend x = made.get();
        int before = Due.refusals(x);
        due.is(told(name, given), call(x, name, given), answer);
        due.is("refusals after " + told(name, given), Due.refusals(x), before);
    }

    void compare(String told, Map<String, Long> got, Map<String, Long> want) {
        due.is("how much is seen after " + told, got.size(), want.size());
        for (String what : want.keySet()) {
            due.is(what + " after " + told, got.getOrDefault(what, Long.MIN_VALUE), want.get(what));
        }
    }

    /** All that can be seen; the object is used up by it. */
    static Map<String, Long> picture(DearPenFriend x) {
        Map<String, Long> seen = new LinkedHashMap<>();
        for (int what = 12; what <= 16; what++) {
            seen.put("status(" + what + ")", (long) x.status(what));
        }
        seen.put("shelves that hold something", (long) x.status(9));
        for (int s = 0; s < 8; s++) {
            seen.put("holds(" + s + ")", (long) x.holds(s));
            for (int i = 0; i < 6; i++) {
                seen.put("element(" + s + ", " + i + ")", x.element(s, i));
            }
        }
        schools(seen, x, "");
        seen.put("the tape's size", (long) x.status(7));
        seen.put("list()", (long) x.list());
        schools(seen, x, ", the tape being read");
        seen.put("back()", (long) x.back());
        schools(seen, x, ", being back");
        return seen;
    }

    private static void schools(Map<String, Long> seen, DearPenFriend x, String when) {
        int[] told = {0, 2, 3, 4, 5, 8};
        for (int what : told) {
            seen.put("status(" + what + ")" + when, (long) x.status(what));
        }
        for (int p = 0; p < x.status(0); p++) {
            for (int what = 0; what < 8; what++) {
                seen.put("pupilOf(" + p + ", " + what + ")" + when, (long) x.pupilOf(p, what));
            }
        }
    }
}
