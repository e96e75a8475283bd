/** The boundary cases that "WHAT COMES OF IT" names of pairs and pupils together, and those of promises 24 to 35, 39, 42 to 44 and 50. */
public final class OutcomesEdgesTest {
    private static final Due due = new Due("OutcomesEdgesTest");
    private static final Standing full = new Standing(due, Standing::full);

    public static void main(String[] args) {
        pairedSixAtMost();
        pairedWithoutFriend();
        pairedMostOfAll();
        pairedThenPairsMost();
        pairedFirstByRows();
        leftInBothSchools();
        bestOfSeveralTheFirst();
        sameOfSeveralTheFirst();
        twinsFirstByNumbers();
        mayNotOver();
        fridaysLess();
        tongueGreatest();
        firstOfSeveral();
        meanCut();
        weakestOfSeveral();
        withJustSoMany();
        nearAtLeast();
        wantedAtLeast();
        alikeOnBothSides();
        keenOfThoseWhoOwe();
        owingBits();
        anewOverAndPaired();
        due.end();
    }

    /** Pupils with an a of 0, of these schools and kinds: "0" and "1" are PUPILS, "p" and "P" PROUD ones who never write. */
    private static DearPenFriend of(String schools) {
        DearPenFriend x = new DearPenFriend();
        for (int i = 0; i < schools.length(); i++) {
            char c = schools.charAt(i);
            x.pupil(c == 'p' || c == 'P' ? 4 : 0, 0, c == '1' || c == 'P' ? 1 : 0);
        }
        return x;
    }

    /** The pupil likes these bits. */
    private static void likes(DearPenFriend x, int pupil, int bits) {
        for (int bit = 0; bit < 8; bit++) {
            x.likes(pupil, bit, (bits >> bit & 1) == 1);
        }
    }

    private static void pairedAre(String when, DearPenFriend x, int together, int... gets) {
        due.is("paired(-1), " + when, x.paired(-1), together);
        for (int i = 0; i < gets.length; i++) {
            due.is("paired(" + i + "), " + when, x.paired(i), gets[i]);
        }
        int bad = x.status(12);
        due.is("paired(" + gets.length + "), " + when, x.paired(gets.length), -2);
        due.is("it is BAD", x.status(12), bad + 1);
    }

    /** "PUPILS of SCHOOL 0 .., by numbers (6 at most)": five, six, seven and eleven of them. */
    private static void pairedSixAtMost() {
        due.promise(24);
        pairedAre("nobody", of(""), 0);
        pairedAre("nobody in SCHOOL 0", of("111"), 0);
        pairedAre("nobody in SCHOOL 1", of("00"), 0, -1, -1);
        pairedAre("five", of("000001"), 0, -1, -1, -1, -1, 5);
        pairedAre("six", of("0000001"), 0, -1, -1, -1, -1, -1, 6);
        pairedAre("seven", of("00000001"), 0, -1, -1, -1, -1, -1, 7);
        pairedAre("eleven", of("000000000001"), 0, -1, -1, -1, -1, -1, 11);
        // the sixth goes through it, the seventh doesn't
        DearPenFriend x = of("00000001");
        likes(x, 7, 1);
        likes(x, 6, 1);
        pairedAre("the seventh likes it", x, 0, -1, -1, -1, -1, -1, 7);
        likes(x, 5, 1);
        pairedAre("the sixth likes it", x, 1, -1, -1, -1, -1, -1, 7);
        likes(x, 5, 0);
        likes(x, 0, 1);
        pairedAre("the first likes it", x, 1, 7, -1, -1, -1, -1, -1);
        pairedAre("six and six", of("010101010101"), 0, 1, 3, 5, 7, 9, 11);
        pairedAre("one and eleven", of("011111111111"), 0, 1);
        pairedAre("eleven and one, the last", of("111111111110"), 0, 0);
    }

    /** "without FRIEND" on both sides. */
    private static void pairedWithoutFriend() {
        due.promise(24);
        DearPenFriend x = of("00001111");
        x.pair(1, 4);
        x.pair(3, 6);
        pairedAre("two pairs", x, 0, 5, 7);
        x.part(1);
        pairedAre("one pair", x, 0, 4, 5, 7);
        x.pair(0, 4);
        x.pair(1, 5);
        x.pair(2, 7);
        pairedAre("all paired", x, 0);
        due.is("left()", x.left(), 0);
        // one of eight more than six, once he is the sixth without FRIEND
        x = of("000000001");
        x.pupil(0, 0, 1);
        likes(x, 6, 3);
        likes(x, 8, 3);
        pairedAre("seventh", x, 0, -1, -1, -1, -1, 8, 9);
        x.pair(0, 9);
        pairedAre("sixth", x, 2, -1, -1, -1, -1, -1, 8);
    }

    /** "so that all COMMON together are most". */
    private static void pairedMostOfAll() {
        due.promise(24);
        // 0 has 3 in common with 2 and 1 with 3; 1 has 2 with 2 and none with 3
        DearPenFriend x = of("0011");
        likes(x, 0, 0b00111);
        likes(x, 1, 0b00011);
        likes(x, 2, 0b00111);
        likes(x, 3, 0b11100);
        pairedAre("3 and none, or 1 and 2: the first by rows", x, 3, 2, 3);
        likes(x, 0, 0b01111);
        pairedAre("3 and none, or 2 and 2", x, 4, 3, 2);
        likes(x, 3, 0b10000);
        pairedAre("3 and none, or none and 2", x, 3, 2, 3);
        // eight in common of six pairs
        x = of("000000111111");
        for (int i = 0; i < 12; i++) {
            likes(x, i, 255);
        }
        pairedAre("all in common", x, 48, 6, 7, 8, 9, 10, 11);
        x.likes(11, 0, false);
        pairedAre("all but one", x, 47, 6, 7, 8, 9, 10, 11);
    }

    /** "then pairs most": nothing in common is rather a pair than none. */
    private static void pairedThenPairsMost() {
        due.promise(24);
        pairedAre("nothing in common", of("01"), 0, 1);
        DearPenFriend x = of("0011");
        likes(x, 0, 1);
        likes(x, 2, 1);
        pairedAre("one in common, and a pair besides", x, 1, 2, 3);
        likes(x, 3, 1);
        pairedAre("0 likes what both like", x, 1, 2, 3);
        likes(x, 2, 2);
        pairedAre("0 likes what 3 likes", x, 1, 3, 2);
        // one in common rather than any pair besides: nobody but 2 is there
        x = of("001");
        likes(x, 0, 1);
        likes(x, 2, 1);
        pairedAre("one column", x, 1, 2, -1);
    }

    /** "of several the first by rows (NONE, nobody, is less than any)". */
    private static void pairedFirstByRows() {
        due.promise(24);
        pairedAre("two rows, one column", of("001"), 0, -1, 2);
        pairedAre("three rows, two columns", of("00011"), 0, -1, 3, 4);
        pairedAre("two rows, three columns", of("00111"), 0, 2, 3);
        pairedAre("columns ahead of rows", of("1100"), 0, 0, 1);
        DearPenFriend x = of("00011");
        likes(x, 0, 1);
        likes(x, 1, 1);
        likes(x, 3, 1);
        pairedAre("0 or 1 with 3, and 2 with 4: nobody for 0", x, 1, -1, 3, 4);
        likes(x, 2, 1);
        pairedAre("1 with 3 or 2 with 3", x, 1, -1, 3, 4);
        likes(x, 1, 0);
        pairedAre("0 with 3 or 2 with 3: nobody for 0", x, 1, -1, 4, 3);
    }

    /** "LEFT: how many are without a FRIEND in both SCHOOLS together then." */
    private static void leftInBothSchools() {
        due.promise(25);
        String[] schools = {"", "0", "1", "01", "001", "011", "000111", "000000000000", "111111111111", "000000011111", "000000111111"};
        int[] left = {0, 1, 1, 0, 1, 1, 0, 12, 12, 2, 0};
        for (int i = 0; i < schools.length; i++) {
            due.is("left() of " + schools[i], of(schools[i]).left(), left[i]);
        }
        DearPenFriend x = of("00011");
        x.pair(0, 3);
        due.is("left(), a pair there is", x.left(), 1);
        x.pair(1, 4);
        due.is("left(), both have a FRIEND", x.left(), 1);
        x.part(0);
        due.is("left(), one parted", x.left(), 1);
    }

    /** "who of the other SCHOOL has most COMMON, FRIEND or not, of several the first". */
    private static void bestOfSeveralTheFirst() {
        due.promise(26);
        DearPenFriend x = of("0");
        due.is("nobody at all", x.best(0), -5);
        x.pupil(0, 0, 0);
        likes(x, 0, 1);
        likes(x, 1, 1);
        due.is("nobody in the other SCHOOL", x.best(0), -5);
        x.pupil(0, 0, 1);
        due.is("one, nothing in common", x.best(0), 2);
        x.pupil(0, 0, 1);
        due.is("two, nothing in common", x.best(0), 2);
        likes(x, 3, 1);
        due.is("the second has more", x.best(0), 3);
        likes(x, 2, 1);
        due.is("as much", x.best(0), 2);
        x.pair(1, 2);
        due.is("the first has a FRIEND", x.best(0), 2);
        x.part(1);
        x.pair(0, 3);
        due.is("another is his own FRIEND", x.best(0), 2);
        due.is("of SCHOOL 1", x.best(3), 0);
        likes(x, 0, 0);
        due.is("of SCHOOL 1, the second has more", x.best(3), 1);
    }

    /** "SAME interest: the bit most PUPILS have, of several the first": none, the last bit, as many. */
    private static void sameOfSeveralTheFirst() {
        due.promise(27);
        DearPenFriend x = of("");
        due.is("same(0), nobody", x.same(0), 0);
        due.is("same(1), nobody", x.same(1), 0);
        x = of("010101010101");
        due.is("same(0), nobody likes any", x.same(0), 0);
        due.is("same(1)", x.same(1), 0);
        x.likes(11, 7, true);
        due.is("same(0), one likes the last", x.same(0), 7);
        due.is("same(1)", x.same(1), 1);
        x.likes(0, 6, true);
        due.is("same(0), as many", x.same(0), 6);
        x.likes(1, 7, true);
        due.is("same(0), one more", x.same(0), 7);
        due.is("same(1)", x.same(1), 2);
        for (int bit = 7; bit >= 0; bit--) {
            DearPenFriend y = of("01");
            y.likes(1, bit, true);
            due.is("same(0), only " + bit, y.same(0), bit);
            due.is("same(1), only " + bit, y.same(1), 1);
            likes(y, 0, 255 - ((1 << bit) - 1));
            likes(y, 1, 255 - ((1 << bit) - 1));
            due.is("same(0), " + bit + " and above", y.same(0), bit);
            due.is("same(1), " + bit + " and above", y.same(1), 2);
        }
        for (int i = 0; i < 12; i++) {
            x.likes(i, 0, true);
        }
        due.is("same(0), all", x.same(0), 0);
        due.is("same(1), all", x.same(1), 12);
    }

    /** "TWINS: two of one SCHOOL with just the same LIKES, the first by numbers: 20 times the lesser and the other; NONE." */
    private static void twinsFirstByNumbers() {
        due.promise(27);
        due.is("twins, nobody", of("").same(2), -1);
        due.is("twins, one", of("0").same(2), -1);
        due.is("twins of two SCHOOLS", of("01").same(2), -1);
        due.is("twins who like none", of("010").same(2), 2);
        due.is("twins of SCHOOL 1", of("011").same(2), 22);
        DearPenFriend x = new DearPenFriend();
        for (int i = 0; i < 12; i++) {
            x.pupil(0, 0, 0);
            likes(x, i, i < 11 ? i + 1 : 11);
        }
        due.is("twins 10 and 11", x.same(2), 211);
        likes(x, 11, 1);
        due.is("twins 0 and 11", x.same(2), 11);
        likes(x, 2, 2);
        due.is("0 and 11 ahead of 1 and 2", x.same(2), 11);
        likes(x, 11, 12);
        due.is("twins 1 and 2", x.same(2), 22);
        likes(x, 2, 255);
        due.is("one who likes more is no twin", x.same(2), -1);
        due.is("refusals", Due.refusals(x), 0);
    }

    /** "MAY: how many pairs aren't OVER." */
    private static void mayNotOver() {
        due.promise(28);
        due.is("may(), nobody", of("").may(), 0);
        DearPenFriend x = of("0101p1");
        due.is("may(), no pair", x.may(), 0);
        x.pair(0, 1);
        due.is("may(), one", x.may(), 1);
        x.pair(4, 5);
        due.is("may(), one that is OVER", x.may(), 1);
        x.pair(2, 3);
        due.is("may(), two", x.may(), 2);
        x.ask(1, 3);
        due.is("may(), WILL 1", x.may(), 2);
        x.ask(1, 4);
        due.is("may(), WILL 0", x.may(), 0);
    }

    /** "of all pairs together, STILL after 4 weeks with FRIDAY 1 less that with 0". */
    private static void fridaysLess() {
        due.promise(29);
        due.is("fridays(), no pair", of("01").fridays(), 0);
        DearPenFriend x = of("p1");
        x.ask(0, 0);
        x.pair(0, 1);
        // WILL 2 four times, less none
        due.is("fridays() of PROUD with 0", x.fridays(), 1000000 - 482252);
        x.ask(2, 1);
        due.is("fridays(), on FRIDAY", x.fridays(), 1000000 - 482252);
        due.is("status(4)", x.status(4), 1);
        x.ask(0, 12);
        due.is("fridays(), all is lost", x.fridays(), 0);
        // WILL 3, 3, 3, 2 with FRIDAY 0, 5, 5, 5, 4 with it; LOSS 0
        DearPenFriend y = of("01");
        y.ask(0, 0);
        y.pair(0, 1);
        int without = 648438;
        // 583333, 340277, 198494, 132329 are left
        due.is("fridays() of PUPIL", y.fridays(), 1000000 - 132329 - without);
        y.pupil(4, 0, 0);
        y.pupil(0, 0, 1);
        y.pair(2, 3);
        due.is("fridays() of both", y.fridays(), 1000000 - 132329 - without + 1000000 - 482252);
        // nothing is gained at 12
        y = of("01");
        likes(y, 0, 255);
        likes(y, 1, 255);
        y.pair(0, 1);
        due.is("fridays() at WILL 12", y.fridays(), 0);
        y = of("01");
        y.ask(1, 9);
        y.pair(0, 1);
        due.is("fridays() at WILL 0, and 0", y.fridays(), 0);
    }

    /** "the greatest TOIL (0 to 9) with which no pair is OVER; NONE". */
    private static void tongueGreatest() {
        due.promise(30);
        due.is("tongue(), no pair", of("01").tongue(), 9);
        int[] tongue = {3, 5, 7, 9, 9};
        for (int common = 0; common < tongue.length; common++) {
            DearPenFriend x = of("01");
            likes(x, 0, (1 << common) - 1);
            likes(x, 1, (1 << common) - 1);
            x.pair(0, 1);
            due.is("tongue(), COMMON " + common, x.tongue(), tongue[common]);
            x.ask(1, 9);
            due.is("tongue(), TOIL 9 now", x.tongue(), tongue[common]);
            due.is("status(3)", x.status(3), 9);
        }
        DearPenFriend x = of("01");
        x.pair(0, 1);
        Due.tell(x, 0, 300, 300, 300, 300, 300, 300, 300, 300, 300, 300, 300, 300);
        x.done(0, 11);
        due.is("tongue(), SILENT 11: 4 less 3", x.tongue(), 0);
        x.ask(1, 0);
        x.done(0, 1);
        due.is("tongue(), SILENT 12: 4 less 4", x.tongue(), -1);
        x.ask(2, 1);
        due.is("tongue(), on FRIDAY", x.tongue(), 1);
        due.is("refusals", Due.refusals(x), 0);
        // no pair: the one that bears least
        x = of("0101p1");
        likes(x, 0, 1);
        likes(x, 1, 1);
        x.pair(0, 1);
        due.is("tongue() of one", x.tongue(), 5);
        x.pair(2, 3);
        due.is("tongue() of two", x.tongue(), 3);
        x.pair(4, 5);
        due.is("tongue() of three", x.tongue(), -1);
    }

    /** "Who in his SCHOOL has the greatest LENGTH (what 0), is longest SILENT (1), has most LIKES (2), of several the first." */
    private static void firstOfSeveral() {
        due.promise(31);
        DearPenFriend x = of("1100");
        for (int what = 0; what < 3; what++) {
            due.is("first(0, " + what + "), all alike", x.first(0, what), 2);
            due.is("first(1, " + what + "), all alike", x.first(1, what), 0);
        }
        likes(x, 3, 128);
        due.is("first(0, 2), one more", x.first(0, 2), 3);
        likes(x, 2, 1);
        due.is("first(0, 2), as many", x.first(0, 2), 2);
        likes(x, 1, 3);
        due.is("first(1, 2)", x.first(1, 2), 1);
        x.pair(2, 0);
        x.pair(3, 1);
        Due.live(x, 303);
        due.is("first(0, 1), one week more", x.first(0, 1), 3);
        Due.live(x, 302);
        due.is("first(0, 1), as long", x.first(0, 1), 2);
        Due.live(x, 203);
        due.is("first(0, 0), one letter", x.first(0, 0), 3);
        Due.live(x, 202);
        due.is("first(0, 0), as long", x.first(0, 0), 2);
        due.is("first(0, 1), silent no more", x.first(0, 1), 2);
        due.is("first(1, 0), no letter", x.first(1, 0), 0);
        due.is("nobody in a SCHOOL", of("00").first(1, 0), -5);
        due.is("one in a SCHOOL", of("001").first(1, 0), 2);
        due.is("no such SCHOOL", x.first(2, 0), -2);
    }

    /** "1000 times COMMON of all pairs together, by how many pairs there are (cut). STUCK: none." */
    private static void meanCut() {
        due.promise(32);
        DearPenFriend x = of("010101");
        due.is("mean(), no pair", x.mean(), -5);
        likes(x, 0, 255);
        likes(x, 1, 255);
        x.pair(2, 3);
        due.is("mean(), nothing in common", x.mean(), 0);
        x.pair(4, 5);
        x.pair(0, 1);
        due.is("mean(), 8 by 3", x.mean(), 2666);
        x.part(2);
        due.is("mean(), 8 by 2", x.mean(), 4000);
        x.part(4);
        due.is("mean(), 8 by 1", x.mean(), 8000);
        x.part(0);
        due.is("mean(), no pair any more", x.mean(), -5);
        due.is("status(15)", x.status(15), 2);
    }

    /** "The pair (its PUPIL of SCHOOL 0) whose STILL after n weeks (0 to 12) is least, of several the first." */
    private static void weakestOfSeveral() {
        due.promise(33);
        DearPenFriend x = of("1010p1");
        due.is("weakest(0), no pair", x.weakest(0), -5);
        x.pair(3, 0);
        due.is("weakest(0), one", x.weakest(0), 3);
        x.pair(1, 2);
        due.is("weakest(12), alike", x.weakest(12), 1);
        likes(x, 1, 1);
        likes(x, 2, 1);
        due.is("weakest(12), the first has more", x.weakest(12), 3);
        due.is("weakest(1)", x.weakest(1), 3);
        due.is("weakest(0), nothing yet", x.weakest(0), 1);
        x.pair(4, 5);
        due.is("weakest(12), PROUD with 0", x.weakest(12), 4);
        due.is("weakest(0), nothing yet", x.weakest(0), 1);
        due.is("weakest(13)", x.weakest(13), -2);
    }

    /** "PUPILS (bits) who have just so many LIKES (0 to 8)." */
    private static void withJustSoMany() {
        due.promise(34);
        due.is("with(0), nobody", of("").with(0), 0);
        DearPenFriend x = of("010101010101");
        due.is("with(0), all", x.with(0), 4095);
        for (int i = 0; i < 9; i++) {
            likes(x, i, (1 << i) - 1);
        }
        due.is("with(0)", x.with(0), 1 + 512 + 1024 + 2048);
        for (int n = 1; n < 9; n++) {
            due.is("with(" + n + ")", x.with(n), 1 << n);
        }
        due.is("with(9)", x.with(9), -2);
        likes(x, 11, 128);
        due.is("with(1)", x.with(1), 2 + 2048);
    }

    /** "PUPILS of the other SCHOOL (bits) with whom one has COMMON v (0 to 8) at least." */
    private static void nearAtLeast() {
        due.promise(35);
        DearPenFriend x = of("011111111110");
        likes(x, 0, 255);
        likes(x, 11, 255);
        for (int i = 1; i < 10; i++) {
            likes(x, i, (1 << (i - 1)) - 1);
        }
        // pupil i of 1 to 9 has i less 1 in common; 10 none
        for (int v = 0; v < 9; v++) {
            int bits = 0;
            for (int i = v + 1; i < 10; i++) {
                bits |= 1 << i;
            }
            due.is("near(0, " + v + ")", x.near(0, v), v == 0 ? bits | 1024 : bits);
        }
        due.is("near(9, 8)", x.near(9, 8), 1 + 2048);
        due.is("near(8, 8)", x.near(8, 8), 0);
        due.is("near(0, 9)", x.near(0, 9), -2);
        due.is("nobody there", of("0").near(0, 0), 0);
    }

    /** "COMMON v (0 to 8) at least, if each of SCHOOL 0 took his BEST (several may take one)". */
    private static void wantedAtLeast() {
        due.promise(39);
        due.is("nobody", of("").wanted(0), 0);
        due.is("nobody to take", of("000").wanted(0), 0);
        due.is("nobody who takes", of("111").wanted(0), 0);
        DearPenFriend x = of("00010");
        likes(x, 3, 255);
        likes(x, 0, 1);
        likes(x, 1, 3);
        likes(x, 2, 255);
        int[] wanted = {4, 3, 2, 1, 1, 1, 1, 1, 1};
        for (int v = 0; v < 9; v++) {
            due.is("wanted(" + v + ")", x.wanted(v), wanted[v]);
        }
        due.is("wanted(9)", x.wanted(9), -2);
        x.pair(0, 3);
        due.is("wanted(1), FRIEND or not", x.wanted(1), 3);
        x.pupil(0, 0, 1);
        due.is("wanted(0), each takes one", x.wanted(0), 4);
    }

    /** "How many pairs have the same LENGTH on both sides." */
    private static void alikeOnBothSides() {
        due.promise(42);
        due.is("alike(), no pair", of("01").alike(), 0);
        DearPenFriend x = Due.with("pupil 0 0 0;pupil 5 0 1;pupil 0 0 0;pupil 0 0 1;pair 0 1;pair 2 3");
        due.is("alike(), no letter on either side", x.alike(), 2);
        Due.live(x, 100);
        due.is("alike(), 5 and 0", x.alike(), 1);
        Due.live(x, 201);
        due.is("alike(), 5 and 5", x.alike(), 2);
        x.part(2);
        due.is("alike(), no FRIEND, no pair", x.alike(), 1);
    }

    /** "Who of those who OWE has the greatest WILL, of several the first. STUCK: nobody." */
    private static void keenOfThoseWhoOwe() {
        due.promise(43);
        DearPenFriend x = of("1010p1");
        due.is("keen(), nobody", x.keen(), -5);
        x.pair(4, 5);
        due.is("keen(), WILL 0", x.keen(), 4);
        x.pair(3, 2);
        due.is("keen(), the lesser number", x.keen(), 3);
        x.pair(1, 0);
        due.is("keen(), as much", x.keen(), 1);
        likes(x, 2, 1);
        likes(x, 3, 1);
        due.is("keen(), more", x.keen(), 3);
        Due.live(x, 103);
        due.is("keen(), the other OWES", x.keen(), 2);
        x.part(2);
        due.is("keen()", x.keen(), 1);
        x.part(1);
        x.part(4);
        due.is("keen(), nobody any more", x.keen(), -5);
    }

    /** "PUPILS (bits) who OWE." */
    private static void owingBits() {
        due.promise(44);
        due.is("owing(), nobody", of("").owing(), 0);
        DearPenFriend x = of("010101010101");
        due.is("owing(), no pair", x.owing(), 0);
        for (int i = 0; i < 12; i += 2) {
            x.pair(i, i + 1);
        }
        due.is("owing(), each of SCHOOL 0", x.owing(), 0b010101010101);
        Due.live(x, 110, 100, 202);
        due.is("owing(), two came, one was lost", x.owing(), 0b100101010110);
        x.part(11);
        due.is("owing(), the last parted", x.owing(), 0b000101010110);
    }

    /** "All pairs that are OVER part in truth, and those whom PAIRED gives each other become pairs: how many new ones." */
    private static void anewOverAndPaired() {
        due.promise(50);
        due.is("anew(), nobody", of("").anew(), 0);
        due.is("anew(), nobody to be paired with", of("000").anew(), 0);
        DearPenFriend x = of("01");
        due.is("anew(), two without FRIEND", x.anew(), 1);
        due.is("0 OWES", x.owing(), 1);
        Due.live(x, 300, 100);
        due.is("anew(), a pair that isn't OVER", x.anew(), 0);
        due.is("its LENGTH stays", x.pupilOf(0, 7), 5);
        due.is("1 OWES", x.owing(), 2);
        x.ask(1, 3);
        due.is("anew(), WILL 1", x.anew(), 0);
        x.ask(1, 4);
        due.is("anew(), WILL 0", x.anew(), 1);
        due.is("its LENGTH is 0", x.pupilOf(0, 7), 0);
        due.is("0 OWES", x.owing(), 1);
        due.is("friend of 0", x.pupilOf(0, 4), 1);
        due.is("anew(), OVER still, and a pair anew", x.anew(), 1);
        // who is OVER goes to the one he has more in common with
        x = of("p1010");
        x.pair(0, 1);
        x.pair(2, 3);
        likes(x, 4, 3);
        likes(x, 1, 3);
        due.is("anew(), one of them new", x.anew(), 1);
        int[] friends = {-1, 4, 3, 2, 1};
        for (int i = 0; i < 5; i++) {
            due.is("friend of " + i, x.pupilOf(i, 4), friends[i]);
        }
        due.is("SILENT, LENGTH, OWES of the parted", x.pupilOf(0, 5) + x.pupilOf(0, 6) + x.pupilOf(0, 7), 0);
        // the sixth of SCHOOL 0 gets somebody, the seventh doesn't
        x = of("000000011111");
        likes(x, 6, 1);
        likes(x, 11, 1);
        due.is("anew(), seven and five", x.anew(), 5);
        due.is("friend of 6", x.pupilOf(6, 4), -1);
        due.is("friend of 5", x.pupilOf(5, 4), 11);
        due.is("friend of 0", x.pupilOf(0, 4), -1);
        due.is("left()", x.left(), 2);
        due.is("anew(), once more", x.anew(), 0);
        full.taken(1, "anew");
    }
}
