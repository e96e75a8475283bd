import java.lang.reflect.Method;
import java.util.List;
import java.util.function.Supplier;

/** Every method with near and far numbers in every place: nothing is thrown, and just what is refused is counted. */
public final class FarNumbersTest {
    private static final Due due = new Due("FarNumbersTest");
    private static final int LEAST = Integer.MIN_VALUE, GREATEST = Integer.MAX_VALUE;
    private static final int[] MANY = {LEAST, LEAST + 1, -100, -21, -2, -1, 0, 1, 2, 3, 5, 7, 8, 9, 10, 11, 12, 13, 39, 40, 41, 99, 100, 101,
        249, 250, 255, 256, 65536, 1000000, 1000001, GREATEST - 1, GREATEST};
    private static final int[] SOME = {LEAST, -1, 0, 2, 5, 8, 41, GREATEST};
    private static final int[] FEW = {LEAST, -1, 0, 7, 41, GREATEST};

    public static void main(String[] args) {
        List<Supplier<DearPenFriend>> made = List.of(DearPenFriend::new, Standing::rich, Standing::full, Standing::fedUp);
        for (Method m : DearPenFriend.class.getMethods()) {
            if (m.getDeclaringClass() == DearPenFriend.class) {
                for (Supplier<DearPenFriend> maker : made) {
                    given(m, maker, new long[m.getParameterCount()], 0);
                }
            }
        }
        due.end();
    }

    private static void given(Method m, Supplier<DearPenFriend> maker, long[] numbers, int place) {
        if (place == numbers.length) {
            call(m.getName(), maker.get(), numbers);
            return;
        }
        int[] tried = numbers.length <= 2 ? MANY : numbers.length == 3 ? SOME : FEW;
        if (m.getParameterTypes()[place] == boolean.class) {
            tried = new int[] {0, 1};
        }
        for (int number : tried) {
            numbers[place] = number;
            given(m, maker, numbers, place + 1);
        }
    }

    private static void call(String name, DearPenFriend x, long[] numbers) {
        int[] before = new int[7];
        for (int i = 2; i <= 6; i++) {
            before[i] = x.status(10 + i);
        }
        long answer = Standing.call(x, name, numbers);
        if (name.equals("list")) {
            answer = answer < 0 ? -2 : answer;
        }
        String told = Standing.told(name, numbers);
        for (int i = 2; i <= 6; i++) {
            due.is("status(" + (10 + i) + ") after " + told + " answered " + answer, x.status(10 + i), before[i] + (answer == -i ? 1 : 0));
        }
        due.is(told + " answers a number of REFUSALS, or none below NONE", answer >= -6 ? 1 : 0, 1);
    }
}
