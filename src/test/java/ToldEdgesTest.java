/** The boundary cases that the document names of MEANT, of a told YEAR and of what is BEHIND it: promises 45 to 48. */
public final class ToldEdgesTest {
    private static final Due due = new Due("ToldEdgesTest");
    private static final int PUPIL = 1, LONG = 2, ASHAMED = 4, WINDY = 8, PROUD = 16, COPIER = 32, ALL = 63;

    public static void main(String[] args) {
        meantByNone();
        meantOneAtWillZero();
        meantZeroAtWillTwelve();
        meantGoesOnAsTold();
        meantByRowsOfAnySort();
        meantStuck();
        wrongNoneSuch();
        wrongWithoutFriend();
        wrongDoesNotOwe();
        wrongWillZeroWhenHeWrites();
        wrongWillTwelveWhenSilent();
        wrongTheFirst();
        yearOfNone();
        yearOfForty();
        behindIt();
        behindOfNobody();
        doneAsTold();
        rowsOfBytesAndShorts();
        due.end();
    }

    /** One of SCHOOL 0 with this a, who OWES one of SCHOOL 1, and COMMON. */
    private static DearPenFriend one(int kind, int a, int common) {
        DearPenFriend x = new DearPenFriend();
        x.pupil(kind, a, 0);
        x.pupil(0, 0, 1);
        for (int bit = 0; bit < common; bit++) {
            x.likes(0, bit, true);
            x.likes(1, bit, true);
        }
        x.pair(0, 1);
        return x;
    }

    private static int meantBy(DearPenFriend x, long... told) {
        Due.tell(x, 0, told);
        return x.meant(0, told.length, 0);
    }

    /** No element is told against anything. */
    private static void meantByNone() {
        due.promise(45);
        due.is("of a row of none", meantBy(one(0, 0, 0)), ALL);
        DearPenFriend x = one(3, 9, 8);
        Due.tell(x, 0, 5, 6);
        due.is("none of a row of two", x.meant(0, 0, 0), ALL);
    }

    /** "a 1 at WILL 0": at 1 it isn't. */
    private static void meantOneAtWillZero() {
        due.promise(45);
        // 4 less TOIL; 1 more of LONG and WINDY; a third of a of COPIER; PROUD with 0 none
        DearPenFriend x = one(0, 2, 0);
        x.ask(1, 3);
        due.is("1 at WILL 1 of PUPIL", meantBy(x, 1), ALL);
        x.ask(1, 4);
        due.is("1 at WILL 0 of PUPIL", meantBy(x, 1), LONG + WINDY);
        x.ask(1, 5);
        due.is("1 at WILL 0 of LONG", meantBy(x, 1), 0);
        due.is("0 at WILL 0", meantBy(x, 0), ALL);
        x = one(0, 3, 0);
        x.ask(1, 4);
        due.is("1, a of 3", meantBy(x, 1), LONG + WINDY + COPIER);
        x = one(0, 0, 0);
        due.is("1, a of 0", meantBy(x, 1), ALL - PROUD);
        x = one(0, 1, 0);
        due.is("1, a of 1", meantBy(x, 1), ALL);
        due.is("0 1, a of 1", meantBy(x, 0, 1), ALL - PROUD);
        x = one(0, 2, 0);
        due.is("0 1, a of 2", meantBy(x, 0, 1), ALL);
        due.is("0 0 1, a of 2", meantBy(x, 0, 0, 1), ALL - PROUD);
        // on FRIDAY nobody's WILL is 0 then
        x.ask(2, 1);
        due.is("0 0 1, a of 2, on FRIDAY", meantBy(x, 0, 0, 1), ALL);
    }

    /** "a 0 at WILL 12": at 11 it isn't. */
    private static void meantZeroAtWillTwelve() {
        due.promise(45);
        DearPenFriend x = one(0, 2, 4);
        due.is("0 at WILL 11 of PUPIL, 12 of LONG", meantBy(x, 0), PUPIL + ASHAMED + PROUD + COPIER);
        x.ask(1, 0);
        due.is("0 at WILL 12 of PUPIL", meantBy(x, 0), 0);
        due.is("1 at WILL 12", meantBy(x, 1), ALL);
        x.ask(1, 2);
        due.is("0 at WILL 11 of LONG", meantBy(x, 0), ALL);
        x = one(0, 3, 4);
        due.is("0, a of 3", meantBy(x, 0), PUPIL + ASHAMED + PROUD);
        x = one(0, 0, 4);
        x.ask(1, 0);
        due.is("0, PROUD with 0", meantBy(x, 0), PROUD);
    }

    /** "SILENT and LENGTH going on as told (a as it is)": from what they are now. */
    private static void meantGoesOnAsTold() {
        due.promise(45);
        // ASHAMED with COMMON 0: 3, 2, 1, then less than 0
        DearPenFriend x = one(0, 9, 0);
        due.is("0 0 1", meantBy(x, 0, 0, 1), ALL);
        due.is("0 0 0 1", meantBy(x, 0, 0, 0, 1), ALL - ASHAMED - PROUD);
        due.is("a 1 ends the silence", meantBy(x, 0, 0, 1, 0, 0, 1), ALL - WINDY);
        // WINDY with 9 has 33 lines then: 4 less 8
        due.is("1", meantBy(x, 1), ALL);
        due.is("1 1", meantBy(x, 1, 1), ALL - WINDY);
        due.is("1 0", meantBy(x, 1, 0), ALL);
        // PUPIL 3 less a third: 0 at 9 weeks; LONG and WINDY at 12; COPIER with 9 6, at 18
        due.is("8 times 0, and 1", meantBy(x, 0, 0, 0, 0, 0, 0, 0, 0, 1), ALL - ASHAMED - PROUD);
        due.is("9 times 0, and 1", meantBy(x, 0, 0, 0, 0, 0, 0, 0, 0, 0, 1), LONG + WINDY + COPIER);
        due.is("12 times 0, and 1", meantBy(x, 0, 0, 0, 0, 0, 0, 0, 0, 0, 0, 0, 0, 1), COPIER);
        long[] long40 = new long[40];
        long40[17] = 1;
        due.is("17 times 0, and 1, and 0 up to 40", meantBy(x, long40), COPIER);
        long40[17] = 0;
        long40[18] = 1;
        due.is("18 times 0, and 1", meantBy(x, long40), 0);
        // as SILENT and LENGTH are now
        x = one(0, 9, 0);
        Due.live(x, 300, 300);
        due.is("silent for 2: 1", meantBy(x, 1), ALL);
        due.is("silent for 2: 0 1", meantBy(x, 0, 1), ALL - ASHAMED - PROUD);
        x = one(1, 9, 0);
        Due.live(x, 200);
        due.is("LENGTH 28 of LONG: as WINDY 4 less 7", meantBy(x, 1), ALL - WINDY);
        due.is("his KIND stays", x.pupilOf(0, 0), 1);
        due.is("his LENGTH stays", x.pupilOf(0, 7), 28);
    }

    /** Rows of bytes, shorts, ints, longs and booleans tell alike. */
    private static void meantByRowsOfAnySort() {
        due.promise(45);
        for (int sort = 0; sort < 5; sort++) {
            DearPenFriend x = one(0, 1, 0);
            x.row(3, sort, 3);
            x.set(3, 1, 257);
            x.set(3, 2, 2);
            due.is("0, sort " + sort, x.meant(3, 1, 0), ALL);
            boolean fits = sort == 0 || sort == 4;
            due.is("0 and 257, sort " + sort, x.meant(3, 2, 0), fits ? ALL - PROUD : -5);
            // as booleans 0 1 1; WINDY with 1 has 17 lines then: 4 less 4
            due.is("0 and 257 and 2, sort " + sort, x.meant(3, 3, 0), sort == 4 ? ALL - PROUD - WINDY : -5);
        }
    }

    /** "he has no FRIEND, doesn't OWE, an element that is neither 0 nor 1": of the first n alone. */
    private static void meantStuck() {
        due.promise(45);
        DearPenFriend x = one(0, 1, 0);
        x.pupil(0, 0, 0);
        Due.tell(x, 0, 1, 1, 2, -1);
        due.is("no FRIEND", x.meant(0, 1, 2), -5);
        due.is("doesn't OWE", x.meant(0, 1, 1), -5);
        due.is("1 1", x.meant(0, 2, 0), ALL - WINDY);
        due.is("1 1 2", x.meant(0, 3, 0), -5);
        Due.tell(x, 0, -1);
        due.is("-1", x.meant(0, 1, 0), -5);
        due.is("none of it", x.meant(0, 0, 0), ALL);
        // it is told against WILL by an element ahead of that: STUCK all the same
        Due.tell(x, 0, 0, 0, 0, 0, 0, 0, 0, 0, 0, 1, 2);
        due.is("2 behind what can't be", x.meant(0, 11, 0), -5);
        due.is("status(15)", x.status(15), 5);
        Due.live(x, 100);
        due.is("now the other OWES", x.meant(0, 1, 1), ALL);
        due.is("and he doesn't", x.meant(0, 1, 0), -5);
        x.part(0);
        due.is("and has no FRIEND", x.meant(0, 1, 1), -5);
    }

    /** Twelve pupils, six pairs, each of SCHOOL 0 OWES; nothing is in common. */
    private static DearPenFriend six() {
        DearPenFriend x = new DearPenFriend();
        for (int i = 0; i < 12; i++) {
            x.pupil(0, 0, i % 2);
        }
        for (int i = 0; i < 12; i += 2) {
            x.pair(i, i + 1);
        }
        return x;
    }

    private static int judged(DearPenFriend x, long... deeds) {
        x.row(0, 3, deeds.length);
        for (int i = 0; i < deeds.length; i++) {
            x.set(0, i, deeds[i]);
        }
        return x.judge(0, deeds.length);
    }

    /** "100 and X .., 200 and X .., 300 and X": WRONG: "none such". */
    private static void wrongNoneSuch() {
        due.promise(46);
        DearPenFriend x = six();
        for (int way = 100; way <= 300; way += 100) {
            due.is("way " + way + ", the first", judged(x, way), -1);
            due.is("way " + way + ", below it", judged(x, way - 1), 0);
            due.is("way " + way + ", the last who OWES", judged(x, way + 10), -1);
            due.is("way " + way + ", a thirteenth", judged(x, way + 12), 0);
            due.is("way " + way + ", the greatest", judged(x, way + 99), 0);
        }
        long[] none = {0, 1, 10, 99, 400, 410, 1000, 10100, -100, -101, -300, -1, 100L + (1L << 32), 300L - (1L << 32), Long.MIN_VALUE, Long.MAX_VALUE};
        for (long deed : none) {
            due.is("deed " + deed, judged(x, deed), 0);
            due.is("deed " + deed + " behind one that can be", judged(x, 100, deed), 1);
        }
        x = one(0, 0, 0);
        due.is("1 of two", judged(x, 100, 101), -1);
        due.is("2 of two", judged(x, 100, 102), 1);
        due.is("of nobody", judged(new DearPenFriend(), 100), 0);
    }

    /** WRONG: "without FRIEND". */
    private static void wrongWithoutFriend() {
        due.promise(46);
        DearPenFriend x = one(0, 0, 0);
        x.pupil(0, 0, 0);
        x.pupil(0, 0, 1);
        for (int way = 100; way <= 300; way += 100) {
            due.is("2 without FRIEND", judged(x, way + 2), 0);
            due.is("3 without FRIEND", judged(x, way + 3), 0);
        }
        x.pair(2, 3);
        due.is("2 with FRIEND", judged(x, 102), -1);
        x.part(0);
        due.is("0 without FRIEND any more", judged(x, 102, 100), 1);
    }

    /** WRONG: "doesn't OWE": as it is told so far. */
    private static void wrongDoesNotOwe() {
        due.promise(46);
        DearPenFriend x = one(0, 0, 0);
        for (int way = 100; way <= 300; way += 100) {
            due.is("1 doesn't OWE", judged(x, way + 1), 0);
            due.is("1 OWES when one came", judged(x, 100, way + 1), -1);
            due.is("0 doesn't OWE then", judged(x, 100, way), 1);
            due.is("1 doesn't OWE when one was lost", judged(x, 200, way + 1), 1);
            due.is("0 OWES still when one was lost", judged(x, 200, way), -1);
            due.is("1 doesn't OWE after silence", judged(x, 300, way + 1), 1);
            due.is("0 OWES still after silence", judged(x, 300, way), -1);
        }
    }

    /** WRONG: "WILL 0 when he writes": at 1 it may be; and he may be silent at 0. */
    private static void wrongWillZeroWhenHeWrites() {
        due.promise(46);
        DearPenFriend x = one(0, 0, 0);
        x.ask(1, 3);
        due.is("came at WILL 1", judged(x, 100), -1);
        due.is("lost at WILL 1", judged(x, 200), -1);
        x.ask(1, 4);
        due.is("came at WILL 0", judged(x, 100), 0);
        due.is("lost at WILL 0", judged(x, 200), 0);
        due.is("silent at WILL 0", judged(x, 300, 300), -1);
        // WILL 1 as long as SILENT is 0 to 2
        x.ask(1, 3);
        due.is("came at SILENT 2", judged(x, 300, 300, 100), -1);
        due.is("came at SILENT 3", judged(x, 300, 300, 300, 100), 3);
        due.is("lost at SILENT 3", judged(x, 300, 300, 300, 200), 3);
        due.is("lost at SILENT 2, and silent again", judged(x, 300, 300, 200, 300, 300, 200), -1);
    }

    /** WRONG: ".. 12 when he's silent": at 11 he may be; and he may write at 12. */
    private static void wrongWillTwelveWhenSilent() {
        due.promise(46);
        DearPenFriend x = one(0, 0, 4);
        due.is("silent at WILL 11", judged(x, 300), -1);
        x.ask(1, 0);
        due.is("silent at WILL 12", judged(x, 300), 0);
        due.is("came at WILL 12", judged(x, 100), -1);
        due.is("lost at WILL 12", judged(x, 200), -1);
        x.ask(1, 2);
        x.ask(2, 1);
        due.is("silent at WILL 10 and 2", judged(x, 300), 0);
        x.ask(1, 3);
        due.is("silent at WILL 9 and 2", judged(x, 300), -1);
    }

    /** "the first that can't be". */
    private static void wrongTheFirst() {
        due.promise(46);
        DearPenFriend x = one(0, 0, 0);
        due.is("the first of two", judged(x, 101, 999), 0);
        due.is("the second of three", judged(x, 100, 100, 999), 1);
        due.is("what comes behind it doesn't count", judged(x, 100, 100, 101), 1);
        Due.tell(x, 0, 100, 101, 999);
        due.is("the first two of three", x.judge(0, 2), -1);
        due.is("all three", x.judge(0, 3), 2);
    }

    /** A YEAR of no elements is not WRONG. */
    private static void yearOfNone() {
        DearPenFriend x = one(0, 0, 0);
        Due.live(x, 100, 301);
        x.row(0, 0, 0);
        due.promise(46);
        due.is("judge(0, 0)", x.judge(0, 0), -1);
        due.promise(47);
        due.is("behind(0, 0, 0)", x.behind(0, 0, 0), 5);
        due.is("behind(0, 0, 1)", x.behind(0, 0, 1), 1);
        due.is("behind(0, 0, 2)", x.behind(0, 0, 2), 0);
        due.promise(48);
        due.is("done(0, 0)", x.done(0, 0), 5);
        x.row(0, 4, 1);
        due.promise(46);
        due.is("judge(0, 1) of a boolean", x.judge(0, 1), 0);
    }

    /** "0 to 40" elements: all of them are told. */
    private static void yearOfForty() {
        DearPenFriend x = one(4, 0, 0);
        x.row(0, 1, 40);
        for (int i = 0; i < 40; i++) {
            x.set(0, i, 300);
        }
        due.promise(46);
        due.is("judge(0, 40)", x.judge(0, 40), -1);
        due.promise(47);
        due.is("behind(0, 39, 1)", x.behind(0, 39, 1), 39);
        due.is("behind(0, 40, 1)", x.behind(0, 40, 1), 40);
        due.is("behind(0, 41, 1)", x.behind(0, 41, 1), -2);
        due.promise(48);
        due.is("done(0, 40)", x.done(0, 40), 0);
        due.is("silent", x.pupilOf(0, 6), 40);
        x.set(0, 39, 100);
        due.promise(46);
        due.is("judge(0, 40), the last can't be", x.judge(0, 40), 39);
        due.is("judge(0, 39)", x.judge(0, 39), -1);
        due.is("judge(0, 41)", x.judge(0, 41), -2);
        x.row(0, 1, 39);
        due.is("judge(0, 40), fewer elements", x.judge(0, 40), -2);
    }

    /** "all LENGTHS together, the greatest SILENT, how many pairs are OVER". */
    private static void behindIt() {
        due.promise(47);
        DearPenFriend x = six();
        x.ask(1, 3);
        Due.tell(x, 0, 100, 101, 202, 304, 304, 304, 306, 306, 308);
        // 5, 7 and 5 lines; 4 is silent for 3 weeks, and WILL 1 is 0 then
        int[][] behind = {{0, 0, 0, 0}, {1, 5, 0, 0}, {2, 12, 0, 0}, {3, 17, 0, 0}, {5, 17, 2, 0}, {6, 17, 3, 1}, {9, 17, 3, 1}};
        for (int[] b : behind) {
            for (int what = 0; what < 3; what++) {
                due.is("behind(0, " + b[0] + ", " + what + ")", x.behind(0, b[0], what), b[1 + what]);
            }
        }
        due.is("behind(0, 9, 3)", x.behind(0, 9, 3), -2);
        due.is("nothing is changed", x.status(6), 0);
        due.is("nobody is silent", x.pupilOf(4, 6), 0);
        // a letter ends the silence that was the greatest
        Due.tell(x, 0, 300, 300, 302, 100);
        due.is("behind(0, 3, 1)", x.behind(0, 3, 1), 2);
        due.is("behind(0, 4, 1)", x.behind(0, 4, 1), 1);
    }

    /** "the greatest SILENT (1; of nobody 0)". */
    private static void behindOfNobody() {
        due.promise(47);
        DearPenFriend x = new DearPenFriend();
        x.row(0, 2, 1);
        for (int what = 0; what < 3; what++) {
            due.is("behind(0, 0, " + what + ") of nobody", x.behind(0, 0, what), 0);
            due.is("behind(0, 1, " + what + "), WRONG", x.behind(0, 1, what), -5);
        }
        due.promise(48);
        due.is("done(0, 0) of nobody", x.done(0, 0), 0);
        due.is("done(0, 1), WRONG", x.done(0, 1), -5);
        due.is("status(15)", x.status(15), 4);
    }

    /** "It comes to pass in truth (WEEK stays): all LENGTHS." */
    private static void doneAsTold() {
        due.promise(48);
        DearPenFriend x = six();
        x.weeks(2);
        DearPenFriend y = six();
        y.seed(x.status(8));
        Due.tell(y, 0, 100, 101, 302, 204, 999);
        due.is("done(0, 4)", y.done(0, 4), 17);
        int[][] then = {{1, 0, 5}, {0, 0, 7}, {1, 1, 0}, {0, 0, 0}, {1, 0, 5}, {0, 0, 0}};
        for (int p = 0; p < 6; p++) {
            for (int what = 5; what < 8; what++) {
                due.is("pupilOf(" + p + ", " + what + ")", y.pupilOf(p, what), then[p][what - 5]);
            }
        }
        due.is("WEEK stays", y.status(5), 0);
        due.is("SEED stays", y.status(8), x.status(8));
        due.is("done(0, 5), WRONG", y.done(0, 5), -5);
        due.is("nothing of it comes to pass", y.status(6), 17);
        due.is("done(0, 0)", y.done(0, 0), 17);
        due.is("done(0, 1), once more", y.done(0, 1), 5 + 3 + 7 + 5);
        due.is("WEEK of the other", x.status(5), 2);
    }

    /** Rows of bytes tell deeds of 100 to 127 alone; what is put in keeps its lowest bits. */
    private static void rowsOfBytesAndShorts() {
        due.promise(46);
        DearPenFriend x = one(0, 0, 0);
        x.row(0, 0, 2);
        x.set(0, 0, 100);
        x.set(0, 1, 101 + 256);
        due.is("100 and 357, by bytes", x.judge(0, 2), -1);
        x.set(0, 0, 200);
        due.is("200, by bytes", x.judge(0, 1), 0);
        x.row(0, 1, 1);
        x.set(0, 0, 65536 + 300);
        due.is("65836, by shorts", x.judge(0, 1), -1);
    }
}
