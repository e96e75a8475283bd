import java.util.Random;

/** Promises 24 to 27, 35, 39 and 50: who should be paired with whom. */
public final class PairingTest {
    private static final Due due = new Due("PairingTest");

    public static void main(String[] args) {
        paired();
        pairedMostTogether();
        pairedFirstByRows();
        pairedSixAtMost();
        pairedAtAllSizes();
        pairedFirstTakesLast();
        left();
        best();
        same();
        near();
        wanted();
        anew();
        due.end();
    }

    private static void pairedAre(DearPenFriend x, int together, int... gets) {
        due.is("paired(-1)", x.paired(-1), together);
        for (int i = 0; i < gets.length; i++) {
            due.is("paired(" + i + ")", x.paired(i), gets[i]);
        }
        int before = x.status(12);
        due.is("paired(" + gets.length + "), none such", x.paired(gets.length), -2);
        due.is("status(12)", x.status(12), before + 1);
    }

    private static void paired() {
        due.promise(24);
        pairedAre(new DearPenFriend(), 0);
        pairedAre(Due.with("pupil 0 0 0"), 0, -1);
        pairedAre(Due.with("pupil 0 0 1"), 0);
        DearPenFriend x = Due.with("pupil 0 0 0; pupil 0 0 1; pupil 0 0 0; pupil 0 0 1; likes 0 0; likes 3 0");
        pairedAre(x, 1, 3, 1);
        due.is("paired(-2)", x.paired(-2), -2);
        due.is("paired, the least", x.paired(Integer.MIN_VALUE), -2);
        due.is("paired, the greatest", x.paired(Integer.MAX_VALUE), -2);
        x.pair(0, 1);
        pairedAre(x, 0, 3);
        due.is("nothing is changed", x.status(1), 1);
    }

    private static void pairedMostTogether() {
        // 0 has 3 with 3, 2 with 4; 1 has 2 with 3, none with 4: 0 would take 3 if he came first alone
        DearPenFriend x = Due.with("pupil 0 0 0; pupil 0 0 0; pupil 0 0 0; pupil 0 0 1; pupil 0 0 1;"
            + "likes 0 0; likes 0 1; likes 0 2; likes 1 0; likes 1 1; likes 3 0; likes 3 1; likes 3 2; likes 4 1; likes 4 2");
        // 0 with 4 and 1 with 3: 4; 0 with 3 and 1 with 4: 4 as well, which rows put first
        pairedAre(x, 4, 3, 4, -1);
        x.likes(4, 1, false);
        x.likes(4, 7, true);
        x.likes(0, 7, true);
        pairedAre(x, 4, 4, 3, -1);
    }

    private static void pairedFirstByRows() {
        // nothing in common: pairs most, and nobody for the first rows
        pairedAre(Due.with("pupil 0 0 0; pupil 0 0 0; pupil 0 0 0; pupil 0 0 1; pupil 0 0 1"), 0, -1, 3, 4);
        pairedAre(Due.with("pupil 0 0 0; pupil 0 0 0; pupil 0 0 1; pupil 0 0 1; pupil 0 0 1"), 0, 2, 3);
        // rather one with most in common than two; but two, if they have as much
        pairedAre(Due.with("pupil 0 0 0; pupil 0 0 0; pupil 0 0 1; likes 0 0; likes 2 0"), 1, 2, -1);
        pairedAre(Due.with("pupil 0 0 0; pupil 0 0 0; pupil 0 0 1; likes 0 0; likes 1 0; likes 2 0"), 1, -1, 2);
    }

    private static void pairedSixAtMost() {
        DearPenFriend x = new DearPenFriend();
        for (int i = 0; i < 8; i++) {
            x.pupil(0, 0, 0);
        }
        for (int i = 0; i < 4; i++) {
            x.pupil(0, 0, 1);
        }
        x.likes(7, 0, true);
        x.likes(11, 0, true);
        pairedAre(x, 0, -1, -1, 8, 9, 10, 11);
        x.pair(7, 11);
        pairedAre(x, 0, -1, -1, -1, 8, 9, 10);
        x = new DearPenFriend();
        for (int i = 0; i < 12; i++) {
            x.pupil(0, 0, i == 0 ? 0 : 1);
            x.likes(i, 3, i == 0 || i == 11);
        }
        pairedAre(x, 1, 11);
        x = new DearPenFriend();
        for (int i = 0; i < 12; i++) {
            x.pupil(0, 0, i % 2);
            for (int bit = 0; bit < 8; bit++) {
                x.likes(i, bit, true);
            }
        }
        pairedAre(x, 48, 1, 3, 5, 7, 9, 11);
    }

    /** As many of each SCHOOL as there can be, against every way to pair them. */
    private static void pairedAtAllSizes() {
        Random random = new Random(24);
        for (int ones = 0; ones <= 12; ones++) {
            for (int others = 0; others <= 12 - ones; others++) {
                for (int time = 0; time < 6; time++) {
                    pairedLikeModel(random, ones, others);
                }
            }
        }
    }

    /** The first takes the last of ten; what is left for the second must still be known then. */
    private static void pairedFirstTakesLast() {
        DearPenFriend x = new DearPenFriend();
        for (int i = 0; i < 12; i++) {
            x.pupil(0, 0, i < 2 ? 0 : 1);
        }
        for (int bit = 0; bit < 3; bit++) {
            x.likes(0, bit, true);
            x.likes(11, bit, true);
        }
        pairedAre(x, 3, 11, 2);
        x.likes(1, 7, true);
        x.likes(5, 7, true);
        pairedAre(x, 4, 11, 5);
    }

    private static void pairedLikeModel(Random random, int ones, int others) {
        DearPenFriend x = new DearPenFriend();
        Model model = new Model();
        for (int i = 0; i < ones + others; i++) {
            int school = i < ones ? 0 : 1;
            x.pupil(0, 0, school);
            model.pupil(0, 0, school);
        }
        // few interests make many ways that are as good, many make few
        int interests = 1 + random.nextInt(8);
        for (int i = 0; i < ones + others; i++) {
            for (int bit = 0; bit < interests; bit++) {
                boolean is = random.nextBoolean();
                x.likes(i, bit, is);
                model.likes(i, bit, is);
            }
        }
        String sizes = " of " + ones + " and " + others;
        for (int i = -1; i <= 6; i++) {
            due.is("paired(" + i + ")" + sizes, x.paired(i), model.paired(i));
        }
        due.is("left()" + sizes, x.left(), model.left());
    }

    private static void left() {
        due.promise(25);
        DearPenFriend x = new DearPenFriend();
        due.is("left()", x.left(), 0);
        x.pupil(0, 0, 1);
        due.is("left(), one", x.left(), 1);
        x.pupil(0, 0, 0);
        due.is("left(), one pair", x.left(), 0);
        x.pupil(0, 0, 0);
        x.pupil(0, 0, 0);
        due.is("left(), three and one", x.left(), 2);
        x.pair(1, 0);
        due.is("left(), one has a friend", x.left(), 2);
        x = new DearPenFriend();
        for (int i = 0; i < 12; i++) {
            x.pupil(0, 0, i < 7 ? 0 : 1);
        }
        due.is("left(), seven and five", x.left(), 2);
        x = new DearPenFriend();
        for (int i = 0; i < 12; i++) {
            x.pupil(0, 0, i < 5 ? 0 : 1);
        }
        due.is("left(), five and seven", x.left(), 2);
    }

    private static void best() {
        due.promise(26);
        DearPenFriend x = Due.with("pupil 0 0 0; pupil 0 0 0; pupil 0 0 1; pupil 0 0 1; pupil 0 0 1; pair 0 3;"
            + "likes 1 0; likes 1 1; likes 3 0; likes 3 1; likes 4 0; likes 4 1; likes 2 1; likes 0 1");
        due.is("best(1), though he has a friend", x.best(1), 3);
        due.is("best(0), of several the first", x.best(0), 2);
        due.is("best(3)", x.best(3), 1);
        due.is("best(2)", x.best(2), 0);
        due.is("best(5)", x.best(5), -2);
        due.is("best(-1)", x.best(-1), -2);
        x = Due.with("pupil 0 0 0; pupil 0 0 0");
        due.is("best(0), nobody", x.best(0), -5);
        x.pupil(0, 0, 1);
        due.is("best(0), nothing in common", x.best(0), 2);
    }

    private static void same() {
        due.promise(27);
        DearPenFriend x = Due.with("pupil 0 0 0; pupil 0 0 1; pupil 0 0 0; pupil 0 0 1; likes 0 6; likes 1 6; likes 2 6; likes 3 2; likes 0 2; likes 2 1");
        due.is("same(0)", x.same(0), 6);
        due.is("same(1)", x.same(1), 3);
        due.is("same(2)", x.same(2), -1);
        due.is("nothing is refused", Due.refusals(x), 0);
        x.likes(1, 2, true);
        due.is("same(0), of several the first", x.same(0), 2);
        x.likes(2, 2, true);
        x.likes(2, 1, false);
        due.is("same(1), all", x.same(1), 4);
        due.is("twins 0 and 2", x.same(2), 2);
        x.likes(3, 6, true);
        x.likes(2, 7, true);
        due.is("twins 1 and 3", x.same(2), 23);
        x.likes(0, 7, true);
        due.is("twins 0 and 2 ahead of 1 and 3", x.same(2), 2);
        due.is("same(3)", x.same(3), -2);
        due.is("same(-1)", x.same(-1), -2);
        x = Due.with("pupil 0 0 0; pupil 0 0 1");
        due.is("no twins of two schools", x.same(2), -1);
        due.is("same(0), none", x.same(0), 0);
        x.likes(1, 1, true);
        due.is("same(0), the second", x.same(0), 1);
        due.is("same(1)", x.same(1), 1);
        x.likes(0, 0, true);
        due.is("same(0), the first", x.same(0), 0);
    }

    private static void near() {
        due.promise(35);
        DearPenFriend x = Due.with("pupil 0 0 0; pupil 0 0 1; pupil 0 0 1; pupil 0 0 0; likes 0 0; likes 0 1; likes 1 0; likes 1 1; likes 2 1; likes 3 0; likes 3 1");
        due.is("near(0, 0)", x.near(0, 0), 6);
        due.is("near(0, 1)", x.near(0, 1), 6);
        due.is("near(0, 2)", x.near(0, 2), 2);
        due.is("near(0, 3)", x.near(0, 3), 0);
        due.is("near(0, 8)", x.near(0, 8), 0);
        due.is("near(1, 2)", x.near(1, 2), 9);
        due.is("near(0, 9)", x.near(0, 9), -2);
        due.is("near(0, -1)", x.near(0, -1), -2);
        due.is("near(4, 0)", x.near(4, 0), -2);
        due.is("near(-1, 0)", x.near(-1, 0), -2);
    }

    private static void wanted() {
        due.promise(39);
        DearPenFriend x = Due.with("pupil 0 0 0; pupil 0 0 0; pupil 0 0 0");
        due.is("wanted(0), nobody to take", x.wanted(0), 0);
        Due.list(x, "pupil 0 0 1; likes 0 0; likes 0 1; likes 1 0; likes 3 0; likes 3 1");
        due.is("wanted(0)", x.wanted(0), 3);
        due.is("wanted(1)", x.wanted(1), 2);
        x.pair(0, 3);
        due.is("wanted(1), friend or not", x.wanted(1), 2);
        due.is("wanted(2)", x.wanted(2), 1);
        due.is("wanted(8)", x.wanted(8), 0);
        due.is("wanted(9)", x.wanted(9), -2);
        due.is("wanted(-1)", x.wanted(-1), -2);
    }

    private static void anew() {
        due.promise(50);
        // PROUD 0 never writes to 1; 2 and 3 write; 4 is alone
        DearPenFriend x = Due.with("pupil 4 0 0; pupil 0 0 1; pupil 0 0 0; pupil 0 0 1; pupil 0 0 0; pair 0 1; pair 2 3; likes 4 0; likes 1 0");
        Due.live(x, 102);
        due.is("anew()", x.anew(), 1);
        due.is("friend of 0", x.pupilOf(0, 4), -1);
        due.is("0 owes", x.pupilOf(0, 5), 0);
        due.is("friend of 1", x.pupilOf(1, 4), 4);
        due.is("friend of 4", x.pupilOf(4, 4), 1);
        due.is("4 owes", x.pupilOf(4, 5), 1);
        due.is("1 doesn't owe", x.pupilOf(1, 5), 0);
        due.is("friend of 2", x.pupilOf(2, 4), 3);
        due.is("3 owes", x.pupilOf(3, 5), 1);
        due.is("lengths of the others stay", x.pupilOf(2, 7), 5);
        due.is("anew(), once more", x.anew(), 0);
        // whoever was parted may get each other again
        x = Due.with("pupil 4 1 0; pupil 0 0 1; pair 0 1");
        Due.live(x, 300);
        due.is("over(0)", x.over(0), 1);
        due.is("anew()", x.anew(), 1);
        due.is("friend of 0", x.pupilOf(0, 4), 1);
        due.is("silent no more", x.pupilOf(0, 6), 0);
        due.is("over(0)", x.over(0), 0);
        due.is("anew(), nobody", new DearPenFriend().anew(), 0);
    }
}
