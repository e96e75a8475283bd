/** Promises 45 to 48: told weeks, told years. */
public final class ToldTest {
    private static final Due due = new Due("ToldTest");
    private static final int ALL = 63;

    public static void main(String[] args) {
        meant();
        meantGoesOn();
        meantRefused();
        judge();
        judgeRefused();
        behind();
        done();
        due.end();
    }

    private static int meantBy(DearPenFriend x, int pupil, long... told) {
        Due.tell(x, 0, told);
        return x.meant(0, told.length, pupil);
    }

    private static void meant() {
        due.promise(45);
        DearPenFriend x = Due.with("pupil 0 0 0; pupil 0 0 1; pair 0 1");
        due.is("nothing told", meantBy(x, 0), ALL);
        due.is("1: PROUD with 0 never writes", meantBy(x, 0, 1), ALL - 16);
        due.is("0: nobody must write", meantBy(x, 0, 0), ALL);
        // WILL of ASHAMED: 3, 2, 1, then 3 less 1 less 3
        due.is("0 0 1", meantBy(x, 0, 0, 0, 1), ALL - 16);
        due.is("0 0 0 1", meantBy(x, 0, 0, 0, 0, 1), ALL - 16 - 4);
        due.is("nothing is changed", x.pupilOf(0, 6) + x.pupilOf(0, 7) + x.pupilOf(0, 0), 0);
        // COMMON 4: 4 and 8 less 1: 11; LONG, WINDY 12; COPIER with 3: 12
        x = Due.with("pupil 0 3 0; pupil 0 0 1; likes 0 0; likes 0 1; likes 0 2; likes 0 3; likes 1 0; likes 1 1; likes 1 2; likes 1 3; pair 0 1");
        due.is("0, with much in common", meantBy(x, 0, 0), 1 + 4 + 16);
        // WINDY has written 21 lines: 12 less 5; the others as before
        due.is("1 0", meantBy(x, 0, 1, 0), 1 + 4 + 16 + 8);
        // PROUD with 3
        due.is("0 0 1", meantBy(x, 0, 0, 0, 1), 1 + 4 + 16);
        due.is("0 0 0 1", meantBy(x, 0, 0, 0, 0, 1), 1 + 4);
        due.is("more told than read", x.meant(0, 3, 0), 1 + 4 + 16);
    }

    private static void meantGoesOn() {
        // SILENT begins as it is: 3 now, and ASHAMED has 3 less 1 less 3
        DearPenFriend x = Due.with("pupil 0 9 0; pupil 0 0 1; pair 0 1");
        due.is("1 at once", meantBy(x, 0, 1), ALL);
        Due.live(x, 300, 300, 300);
        due.is("1 after 3 weeks: neither ASHAMED nor PROUD", meantBy(x, 0, 1), ALL - 4 - 16);
        // a letter ends the silence
        due.is("0 1", meantBy(x, 0, 0, 1), ALL - 4 - 16);
        x = Due.with("pupil 2 9 0; pupil 0 0 1; pair 0 1");
        due.is("0 0 1 0 0 1", meantBy(x, 0, 0, 0, 1, 0, 0, 1), ALL - 8);
        // WINDY with 9 writes 33 lines: 4 less 8
        due.is("1 1: not WINDY", meantBy(x, 0, 1, 1), ALL - 8);
        due.is("nothing is changed", x.pupilOf(0, 0), 2);
    }

    private static void meantRefused() {
        DearPenFriend x = Due.with("pupil 0 0 0; pupil 0 0 1; pair 0 1; pupil 0 0 0");
        x.show(1, 0);
        Due.tell(x, 0, 0, 2);
        due.is("meant(8, 0, 0)", x.meant(8, 0, 0), -2);
        due.is("meant(1, 41, 0)", x.meant(1, 41, 0), -2);
        due.is("meant(1, -1, 0)", x.meant(1, -1, 0), -2);
        due.is("meant(1, 0, 3)", x.meant(1, 0, 3), -2);
        due.is("meant(2, 0, -1)", x.meant(2, 0, -1), -2);
        due.is("meant(1, 0, 0), a pupil", x.meant(1, 0, 0), -3);
        due.is("meant(2, 0, 0), nothing", x.meant(2, 0, 0), -4);
        due.is("meant(0, 3, 2), fewer elements", x.meant(0, 3, 2), -2);
        due.is("meant(0, 0, 2), no friend", x.meant(0, 0, 2), -5);
        due.is("meant(0, 0, 1), doesn't owe", x.meant(0, 0, 1), -5);
        due.is("meant(0, 2, 0), an element 2", x.meant(0, 2, 0), -5);
        due.is("meant(0, 1, 0)", x.meant(0, 1, 0), ALL);
        Due.tell(x, 0, -1);
        due.is("meant(0, 1, 0), an element -1", x.meant(0, 1, 0), -5);
        x.row(0, 3, 1);
        x.set(0, 0, 1L << 32);
        due.is("meant(0, 1, 0), a long element", x.meant(0, 1, 0), -5);
        due.is("status(15)", x.status(15), 5);
    }

    private static int judgeOf(DearPenFriend x, long... deeds) {
        Due.tell(x, 0, deeds);
        return x.judge(0, deeds.length);
    }

    private static void judge() {
        due.promise(46);
        DearPenFriend x = Due.with("pupil 0 0 0; pupil 0 0 1; pair 0 1; pupil 0 0 0; pupil 4 1 0; pupil 0 0 1; pair 3 4");
        due.is("nothing told", judgeOf(x), -1);
        due.is("by turns", judgeOf(x, 100, 101, 300, 200, 200, 100, 301), -1);
        due.is("writes, and writes again", judgeOf(x, 100, 100), 1);
        due.is("lost, and his turn yet", judgeOf(x, 200, 100, 101), -1);
        due.is("lost, and the other's turn", judgeOf(x, 200, 101), 1);
        due.is("1 doesn't owe", judgeOf(x, 101), 0);
        due.is("silence of one who doesn't owe", judgeOf(x, 300, 301), 1);
        due.is("2 has no friend", judgeOf(x, 102), 0);
        due.is("PROUD 3 is silent, and can't", judgeOf(x, 303, 303, 103), 2);
        due.is("nor lose one", judgeOf(x, 303, 203), 1);
        due.is("PROUD 3 writes at once", judgeOf(x, 103, 104, 303, 104), 3);
        long[] nobody = {0, 1, -1, 99, 105, 112, 199, 205, 305, 399, 400, 500, 1000, -100, -300};
        for (long deed : nobody) {
            due.is("none such: " + deed, judgeOf(x, 100, deed), 1);
        }
        x.row(0, 3, 2);
        x.set(0, 0, 100);
        x.set(0, 1, (1L << 32) + 101);
        due.is("a long that ends like a deed", x.judge(0, 2), 1);
        due.is("read no further", x.judge(0, 1), -1);
        due.is("nothing is changed", x.status(6), 0);
        due.is("nothing is refused", Due.refusals(x), 0);
        x.ask(1, 0);
        for (int bit = 0; bit < 4; bit++) {
            x.likes(0, bit, true);
            x.likes(1, bit, true);
        }
        due.is("silent at WILL 12", judgeOf(x, 300), 0);
        x.ask(1, 1);
        due.is("silent at WILL 11", judgeOf(x, 300), -1);
        x.ask(0, 0);
        due.is("lost at LOSS 0, which nothing speaks against", judgeOf(x, 200), -1);
    }

    private static void judgeRefused() {
        DearPenFriend x = Due.with("pupil 0 0 0");
        x.show(1, 0);
        Due.tell(x, 0, 5, 6);
        due.is("judge(8, 0)", x.judge(8, 0), -2);
        due.is("judge(-1, 0)", x.judge(-1, 0), -2);
        due.is("judge(1, 41)", x.judge(1, 41), -2);
        due.is("judge(2, -1)", x.judge(2, -1), -2);
        due.is("judge(1, 0), a pupil", x.judge(1, 0), -3);
        due.is("judge(2, 40), nothing", x.judge(2, 40), -4);
        due.is("judge(0, 3), fewer elements", x.judge(0, 3), -2);
        due.is("judge(0, 2)", x.judge(0, 2), 0);
        due.is("judge(0, 0)", x.judge(0, 0), -1);
        x.row(3, 4, 40);
        due.is("judge(3, 40)", x.judge(3, 40), 0);
    }

    private static void behind() {
        due.promise(47);
        DearPenFriend x = Due.with("pupil 4 1 0; pupil 0 0 1; pair 0 1; pupil 0 0 0; pupil 2 5 1; pair 2 3");
        Due.tell(x, 0, 102, 303, 303, 300, 103);
        // ASHAMED 3: 5 and 5 and half of 5, less 2
        due.is("behind(0, 5, 0)", x.behind(0, 5, 0), 15);
        due.is("behind(0, 5, 1)", x.behind(0, 5, 1), 1);
        due.is("behind(0, 5, 2)", x.behind(0, 5, 2), 1);
        due.is("behind(0, 3, 0)", x.behind(0, 3, 0), 5);
        due.is("behind(0, 3, 1)", x.behind(0, 3, 1), 2);
        due.is("behind(0, 3, 2)", x.behind(0, 3, 2), 0);
        due.is("nothing is changed", x.status(6), 0);
        Due.tell(x, 0, 202, 202);
        due.is("behind(0, 2, 0), lost", x.behind(0, 2, 0), 5);
        due.is("behind(8, 0, 0)", x.behind(8, 0, 0), -2);
        due.is("behind(0, 41, 0)", x.behind(0, 41, 0), -2);
        x.show(1, 0);
        due.is("behind(1, 0, 3)", x.behind(1, 0, 3), -2);
        due.is("behind(2, 0, -1)", x.behind(2, 0, -1), -2);
        due.is("behind(1, 0, 0), a pupil", x.behind(1, 0, 0), -3);
        due.is("behind(2, 0, 0), nothing", x.behind(2, 0, 0), -4);
        due.is("behind(0, 3, 0), fewer elements", x.behind(0, 3, 0), -2);
        Due.tell(x, 0, 100, 100);
        due.is("behind(0, 2, 0), wrong", x.behind(0, 2, 0), -5);
        due.is("behind(0, 1, 0)", x.behind(0, 1, 0), 6);
        x = new DearPenFriend();
        x.row(0, 0, 0);
        due.is("behind(0, 0, 1), of nobody", x.behind(0, 0, 1), 0);
    }

    private static void done() {
        due.promise(48);
        DearPenFriend x = Due.with("pupil 0 0 0; pupil 5 0 1; pair 0 1");
        Due.tell(x, 0, 300, 100, 301, 301, 101, 200);
        int seed = x.status(8);
        due.is("done(0, 4)", x.done(0, 4), 5);
        due.is("owes", x.pupilOf(1, 5), 1);
        due.is("silent", x.pupilOf(1, 6), 2);
        due.is("silent no more", x.pupilOf(0, 6), 0);
        due.is("done(0, 1), wrong now", x.done(0, 1), -5);
        Due.tell(x, 0, 101, 200, 101);
        due.is("done(0, 3), wrong", x.done(0, 3), -5);
        due.is("nothing comes to pass", x.status(6), 5);
        due.is("done(0, 2): 5 and half of 5, and 5", x.done(0, 2), 12);
        due.is("owes still", x.pupilOf(0, 5), 1);
        due.is("week stays", x.status(5), 0);
        due.is("seed stays", x.status(8), seed);
        due.is("done(0, 0)", x.done(0, 0), 12);
        due.is("done(8, 0)", x.done(8, 0), -2);
        due.is("done(0, -1)", x.done(0, -1), -2);
        due.is("done(0, 41)", x.done(0, 41), -2);
        x.show(1, 0);
        due.is("done(1, 0), a pupil", x.done(1, 0), -3);
        due.is("done(2, 0), nothing", x.done(2, 0), -4);
        due.is("done(0, 4), fewer elements", x.done(0, 4), -2);
        x = Due.with("pupil 0 0 0; pupil 0 0 1; pair 0 1; likes 0 0; likes 1 0; likes 0 1; likes 1 1; friday 1");
        for (int i = 0; i < 101; i++) {
            Due.live(x, 300);
        }
        due.is("silent, 99 at most", x.pupilOf(0, 6), 99);
    }
}
