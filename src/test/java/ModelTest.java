import java.lang.reflect.InvocationTargetException;
import java.lang.reflect.Method;
import java.util.ArrayList;
import java.util.Arrays;
import java.util.Comparator;
import java.util.HashMap;
import java.util.List;
import java.util.Map;
import java.util.Random;

/** All promises: long runs of drawn calls, answered by the class and by the Model of the document. */
public final class ModelTest {
    private static final int RUNS = 4000;
    private static final int CALLS = 512;
    private static final int[] WILD = {Integer.MIN_VALUE, Integer.MAX_VALUE, -2, -1, 8, 9, 10, 12, 13, 40, 41, 99, 100, 255, 256, 1000000, 1000001};
    /** The greatest fitting number of each parameter; -1: of a boolean or a long. */
    private static final Map<String, int[]> MOST = new HashMap<>();

    private final Random random;
    private final int run;
    private DearPenFriend x;
    private Model model;
    private final List<String> calls = new ArrayList<>();
    private static Method[] methods;
    private static final Map<String, Method> modelled = new HashMap<>();
    private static final Map<String, Method> tested = new HashMap<>();
    private static final Map<String, Integer> fine = new HashMap<>();

    private ModelTest(int run) {
        this.run = run;
        random = new Random(run * 7919L + 5);
    }

    private static void most(String name, int... greatest) {
        MOST.put(name, greatest);
    }

    private static void greatest() {
        most("row", 7, 4, 40);
        most("set", 7, 39, -1);
        most("copy", 7, 7, 12, 12, 12);
        most("element", 7, 39);
        most("holds", 7);
        most("show", 7, 11);
        most("says", 7, 5);
        most("pupil", 5, 9, 1);
        most("likes", 11, 7, -1);
        most("pair", 11, 11);
        most("part", 11);
        most("ask", 2, 12);
        most("feed", 255);
        most("pupilOf", 11, 7);
        most("common", 11, 11);
        most("will", 11, 1);
        most("over", 11);
        most("still", 11, 12);
        most("again", 11, 1000000);
        most("lost", 11, 40);
        most("paired", 5);
        most("best", 11);
        most("same", 2);
        most("first", 1, 2);
        most("weakest", 12);
        most("with", 8);
        most("near", 11, 8);
        most("lasts", 11);
        most("wish", 11);
        most("asPair", 11, 11, 1);
        most("wanted", 8);
        most("bears", 11, 12, 1000000);
        most("drift", 11, 40);
        most("meant", 7, 12, 11);
        most("judge", 7, 12);
        most("behind", 7, 12, 2);
        most("done", 7, 12);
        most("weeks", 99);
        most("seed", Integer.MAX_VALUE);
        most("status", 16);
    }

    public static void main(String[] args) throws Exception {
        greatest();
        List<Method> found = new ArrayList<>();
        for (Method m : DearPenFriend.class.getDeclaredMethods()) {
            if (java.lang.reflect.Modifier.isPublic(m.getModifiers())) {
                found.add(m);
                tested.put(m.getName(), m);
                modelled.put(m.getName(), Model.class.getMethod(m.getName(), m.getParameterTypes()));
                modelled.get(m.getName()).setAccessible(true);
            }
        }
        found.sort(Comparator.comparing(Method::getName));
        methods = found.toArray(new Method[0]);
        for (int run = 1; run <= RUNS; run++) {
            new ModelTest(run).go();
        }
        for (Method m : methods) {
            if (fine.getOrDefault(m.getName(), 0) < 100) {
                System.out.println("ModelTest: " + m.getName() + " was answered too seldom: " + fine.get(m.getName()));
                System.exit(1);
            }
        }
        System.out.println("ModelTest: " + RUNS + " runs as the Model has them");
    }

    private void go() throws Exception {
        x = new DearPenFriend();
        model = new Model();
        int pupils = random.nextInt(13);
        boolean mixed = random.nextInt(3) > 0;
        for (int i = 0; i < pupils; i++) {
            call("pupil", random.nextInt(6), random.nextInt(10), mixed ? i % 2 : random.nextInt(2));
        }
        likeOften(random.nextInt(60));
        while (calls.size() < CALLS) {
            step();
        }
    }

    private void likeOften(int times) throws Exception {
        for (int i = 0; i < times; i++) {
            call("likes", random.nextInt(12), random.nextInt(8), true);
        }
    }

    private void step() throws Exception {
        switch (random.nextInt(24)) {
            case 0:
                readList();
                break;
            case 1:
            case 2:
                tellYear();
                break;
            case 3:
                tellWeeks();
                break;
            case 4:
            case 5:
                call("pair", random.nextInt(12), random.nextInt(12));
                break;
            case 6:
                call("ask", 2, 0);
                call("ask", 1, random.nextInt(3));
                break;
            case 7:
                call("weeks", 1 + random.nextInt(3));
                break;
            case 8:
                likeOften(3);
                break;
            case 9:
                if (random.nextInt(4) == 0) {
                    call("anew");
                }
                break;
            case 10:
                copyRows();
                break;
            case 11:
                letSay();
                break;
            case 12:
                call("pupil", random.nextInt(6), random.nextInt(10), random.nextInt(2));
                break;
            default:
                callAny();
                break;
        }
    }

    private void callAny() throws Exception {
        Method m = methods[random.nextInt(methods.length)];
        Class<?>[] types = m.getParameterTypes();
        int[] greatest = MOST.getOrDefault(m.getName(), new int[0]);
        if (types.length != greatest.length) {
            throw new IllegalStateException("no numbers for " + m.getName());
        }
        Object[] given = new Object[types.length];
        for (int i = 0; i < types.length; i++) {
            if (types[i] == boolean.class) {
                given[i] = random.nextBoolean();
            } else if (types[i] == long.class) {
                given[i] = random.nextBoolean() ? random.nextLong() : (long) random.nextInt(400);
            } else {
                given[i] = number(greatest[i]);
            }
        }
        if (m.getName().equals("list") || m.getName().equals("part") && random.nextInt(3) > 0) {
            return;
        }
        call(m.getName(), given);
    }

    private int number(int greatest) {
        if (random.nextInt(12) == 0) {
            return WILD[random.nextInt(WILD.length)];
        }
        if (random.nextInt(12) == 0) {
            return greatest + 1;
        }
        return greatest == Integer.MAX_VALUE ? random.nextInt() : random.nextInt(greatest + 1);
    }

    private void readList() throws Exception {
        StringBuilder text = new StringBuilder();
        int statements = 1 + random.nextInt(3);
        for (int i = 0; i < statements; i++) {
            text.append(i == 0 ? "" : spaced(";"));
            text.append(statement());
        }
        if (random.nextInt(3) == 0) {
            String odd = "abz 09;;  \u00e9A/:`{";
            text.insert(random.nextInt(text.length() + 1), odd.charAt(random.nextInt(odd.length())));
        }
        if (random.nextInt(6) == 0) {
            text.setLength(random.nextInt(text.length() + 1));
        }
        for (int i = 0; i < text.length(); i++) {
            call("feed", (int) text.charAt(i));
        }
        call("list");
    }

    private String spaced(String sign) {
        return " ".repeat(random.nextInt(2)) + sign + " ".repeat(random.nextInt(2));
    }

    private String statement() {
        int one = random.nextInt(12);
        int two = random.nextInt(12);
        switch (random.nextInt(7)) {
            case 0:
                return "pupil " + random.nextInt(6) + " " + random.nextInt(10) + " " + random.nextInt(2);
            case 1:
                return "likes " + one + " " + random.nextInt(9);
            case 2:
                return "pair " + one + " " + two;
            case 3:
                return "part " + one;
            case 4:
                return "loss" + spaced("") + random.nextInt(14);
            case 5:
                return "toil" + spaced("") + "0" + random.nextInt(11);
            default:
                return "friday " + random.nextInt(3);
        }
    }

    private void letSay() throws Exception {
        int s = random.nextInt(8);
        call("show", s, random.nextInt(12));
        for (int kind = 0; kind < 6; kind++) {
            call("says", s, kind);
        }
    }

    private void copyRows() throws Exception {
        int s = random.nextInt(8);
        int t = random.nextInt(8);
        int sort = random.nextInt(5);
        call("row", s, sort, 40);
        call("row", t, random.nextInt(9) == 0 ? random.nextInt(5) : sort, 30 + random.nextInt(11));
        for (int i = 0; i < 6; i++) {
            call("set", random.nextBoolean() ? s : t, random.nextInt(12), random.nextLong() >> random.nextInt(64));
        }
        call("copy", s, t, random.nextInt(10), random.nextInt(10), random.nextInt(30));
        call("copy", t, t, random.nextInt(10), random.nextInt(10), random.nextInt(24));
        for (int i = 0; i < 6; i++) {
            call("element", random.nextBoolean() ? s : t, random.nextInt(16));
        }
    }

    private void tellYear() throws Exception {
        int s = random.nextInt(8);
        int n = random.nextInt(9);
        call("row", s, 1 + random.nextInt(3), n);
        for (int i = 0; i < n; i++) {
            int owing = x.owing();
            int one = random.nextInt(12);
            while (owing != 0 && random.nextInt(20) > 0 && (owing >> one & 1) == 0) {
                one = random.nextInt(12);
            }
            call("set", s, i, (long) (100 * (1 + random.nextInt(3)) + one));
        }
        call("judge", s, n);
        call("behind", s, random.nextInt(n + 1), random.nextInt(3));
        int last = random.nextInt(n + 1);
        call("done", s, last);
    }

    private void tellWeeks() throws Exception {
        int s = random.nextInt(8);
        int n = random.nextInt(10);
        call("row", s, random.nextInt(5), n);
        for (int i = 0; i < n; i++) {
            call("set", s, i, random.nextInt(60) == 0 ? 2L : (long) random.nextInt(2));
        }
        for (int one = 0; one < 12; one++) {
            if ((x.owing() >> one & 1) == 1) {
                call("meant", s, n, one);
            }
        }
    }

    private void call(String name, Object... given) throws Exception {
        calls.add(name + Arrays.toString(given));
        Object got;
        try {
            got = tested.get(name).invoke(x, given);
        } catch (InvocationTargetException e) {
            got = e.getCause();
        }
        Object want = modelled.get(name).invoke(model, given);
        if (!want.equals(got)) {
            int from = Math.max(0, calls.size() - 60);
            System.out.println(String.join("\n", calls.subList(from, calls.size())));
            System.out.println("ModelTest: run " + run + ", call " + calls.size() + " answered " + got + ", the Model says " + want);
            System.exit(1);
        }
        if (((Number) want).longValue() >= 0) {
            fine.merge(name, 1, Integer::sum);
        }
    }
}
