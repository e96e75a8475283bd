/** Promises 14 to 16: the tape and the lists read from it. */
public final class TapeTest {
    private static final Due due = new Due("TapeTest");
    private static final String TWO = "pupil 0 0 0;pupil 0 0 1;";

    public static void main(String[] args) {
        feed();
        wipe();
        listTaken();
        listWritten();
        listFaults();
        listFaultsOfPairs();
        allOrNothing();
        noRoom();
        due.end();
    }

    private static void feed() {
        due.promise(14);
        DearPenFriend x = new DearPenFriend();
        due.is("feed(0)", x.feed(0), 1);
        due.is("feed(255)", x.feed(255), 2);
        due.is("feed(256)", x.feed(256), -2);
        due.is("feed(-1)", x.feed(-1), -2);
        for (int i = 3; i <= 250; i++) {
            due.is("feed, byte " + i, x.feed(32), i);
        }
        due.is("feed(32), no room", x.feed(32), -6);
        due.is("feed(256), no room", x.feed(256), -2);
        due.is("status(7)", x.status(7), 250);
        due.is("status(12)", x.status(12), 3);
        due.is("status(16)", x.status(16), 1);
    }

    private static void wipe() {
        due.promise(15);
        DearPenFriend x = new DearPenFriend();
        due.is("wipe()", x.wipe(), 0);
        Due.feed(x, "toil 5");
        due.is("wipe()", x.wipe(), 6);
        due.is("wipe() again", x.wipe(), 0);
        due.is("status(7)", x.status(7), 0);
        due.is("list(), behind the wipe", Due.list(x, "toil 7"), 1);
        due.is("status(3)", x.status(3), 7);
    }

    private static void listTaken() {
        due.promise(16);
        DearPenFriend x = new DearPenFriend();
        due.is("list()", Due.list(x, "pupil 5 9 0;pupil 1 2 1;likes 0 7;likes 1 7;likes 1 0;pair 0 1;loss 12;toil 9;friday 1"), 9);
        long[] status = {2, 1, 12, 9, 1, 0, 0, 0, 1, 0};
        for (int what = 0; what < status.length; what++) {
            due.is("status(" + what + ")", x.status(what), status[what]);
        }
        long[] one = {1, 2, 1, 129, 0, 0, 0, 0};
        for (int what = 0; what < one.length; what++) {
            due.is("pupilOf(1, " + what + ")", x.pupilOf(1, what), one[what]);
        }
        due.is("0 owes", x.pupilOf(0, 5), 1);
        due.is("likes besides", Due.list(x, "likes 0 7; likes 0 6"), 2);
        due.is("pupilOf(0, 3)", x.pupilOf(0, 3), 192);
        due.is("part and pair anew", Due.list(x, "part 1;pair 0 1;part 0"), 3);
        due.is("status(1)", x.status(1), 0);
        due.is("loss, toil, friday 0", Due.list(x, "loss 0;toil 0;friday 0"), 3);
        due.is("status(2)", x.status(2), 0);
        due.is("status(3)", x.status(3), 0);
        due.is("status(4)", x.status(4), 0);
        due.is("refusals", Due.refusals(x), 0);
        due.is("pair begins anew", Due.list(x, "pair 0 1"), 1);
        Due.live(x, 300, 100);
        due.is("lengths", x.status(6), 1);
        due.is("part", Due.list(x, "part 0;pair 0 1"), 2);
        due.is("lengths", x.status(6), 0);
    }

    /** Where blanks may stand, and where they needn't. */
    private static void listWritten() {
        taken("pupil0 1 0", 1);
        taken("  pupil   0  01   0  ;likes0 07  ", 2);
        taken("loss00;toil09;friday01", 3);
        taken("loss 0 ;toil 9", 2);
        fault("pupil 010 0", 6);
        fault("p upil 0 0 0", 0);
        fault("loss 1 2", 7);
        fault("loss 1\t", 6);
        fault("\tloss 1", 0);
        fault("LOSS 1", 0);
        fault("losS 1", 0);
        fault("loss\u00e9 1", 4);
        fault("loss 1,toil 1", 6);
        fault("loss -1", 5);
    }

    private static void taken(String text, int statements) {
        DearPenFriend x = new DearPenFriend();
        due.is("list() of '" + text + "'", Due.list(x, text), statements);
        due.is("refusals of '" + text + "'", Due.refusals(x), 0);
        due.is("the tape after '" + text + "'", x.status(7), 0);
    }

    private static void fault(String text, int place) {
        DearPenFriend x = new DearPenFriend();
        due.is("list() of '" + text + "'", Due.list(x, text), -20 - place);
        due.is("status(12) after '" + text + "'", x.status(12), 1);
        due.is("refusals after '" + text + "'", Due.refusals(x), 1);
        due.is("the tape after '" + text + "'", x.status(7), 0);
        due.is("pupils after '" + text + "'", x.status(0), 0);
    }

    private static void listFaults() {
        fault("", 0);
        fault("   ", 3);
        fault(";", 0);
        fault("loss 1;", 7);
        fault("loss 1; ", 8);
        fault("loss 1;;toil 1", 7);
        fault("loss", 4);
        fault("loss ", 5);
        fault("loss;", 4);
        fault("loss x", 5);
        fault("loss 13", 5);
        fault("loss 012", 5);
        fault("loss 99999999999999999999", 5);
        fault("loss 4294967296", 5);
        fault("toil 10", 5);
        fault("friday 2", 7);
        fault("7", 0);
        fault("pupils 0 0 0", 0);
        fault("pupi 0 0 0", 0);
        fault("qoss 1", 0);
        fault("lose 1", 0);
        fault("lossz 1", 0);
        fault("lossa 1", 0);
        fault("loss 1z", 6);
        fault("pupil 6 0 0", 6);
        fault("pupil 0 10 0", 8);
        fault("pupil 0 0 2", 10);
        fault("pupil 0 0", 9);
        fault("pupil 0 ;", 8);
        fault("pupil 0 0 0 0", 12);
        fault("pupil 0 0 0likes 0 0", 11);
        fault("likes 0 0", 6);
        fault("part 0", 5);
        fault("pair 0 0", 5);
        fault("likes", 5);
        fault(TWO + "likes 2 0", 30);
        fault(TWO + "likes 1 8", 32);
        fault(TWO + "likes 1", 31);
        fault("likes 0 0;pupil 0 0 0", 6);
    }

    private static void listFaultsOfPairs() {
        fault(TWO + "pair 1 0", 29);
        fault(TWO + "pair 0 0", 31);
        fault(TWO + "pair 0 2", 31);
        fault(TWO + "pair 2 1", 29);
        fault(TWO + "pair 0", 30);
        fault(TWO + "pair 0 1;pair 0 1", 38);
        fault(TWO + "pupil 0 0 0;pair 0 1;pair 2 1", 52);
        fault(TWO + "part 0", 29);
        fault(TWO + "part 2", 29);
        fault(TWO + "pair 0 1;part 1;part 0", 45);
    }

    private static void allOrNothing() {
        DearPenFriend x = Due.with("pupil 0 0 0; pupil 0 0 1; likes 0 0; pair 0 1; loss 3; toil 4; friday 1");
        due.is("a list with a fault", Due.list(x, "pupil 0 0 0; likes 0 1; part 0; loss 5; toil 5; friday 0; x"), -20 - 58);
        long[] status = {2, 1, 3, 4, 1};
        for (int what = 0; what < status.length; what++) {
            due.is("status(" + what + ")", x.status(what), status[what]);
        }
        due.is("pupilOf(0, 3)", x.pupilOf(0, 3), 1);
        due.is("pupilOf(0, 5)", x.pupilOf(0, 5), 1);
    }

    private static void noRoom() {
        DearPenFriend x = new DearPenFriend();
        for (int i = 0; i < 11; i++) {
            x.pupil(0, 0, 0);
        }
        due.is("no room for the second", Due.list(x, "pupil 0 0 0; pupil 0 0 0"), -20 - 13);
        due.is("room for one", Due.list(x, "pupil 0 0 0"), 1);
        due.is("no room: its word", Due.list(x, "loss 2;pupil 9 0 0"), -20 - 7);
        due.is("no room, its word alone", Due.list(x, "pupil"), -20);
        due.is("status(16): it is BAD, not FULL", x.status(16), 0);
        due.is("status(12)", x.status(12), 3);
    }
}
