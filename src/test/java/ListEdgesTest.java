/** Promise 16 and what "THE SCHOOLS" says of a LIST, sentence by sentence: tokens, statements, all or nothing, the fault. */
public final class ListEdgesTest {
    private static final Due due = new Due("ListEdgesTest");
    private static final Standing rich = new Standing(due, Standing::rich);
    private static final String TWO = "pupil 0 0 0;pupil 0 0 1;";

    public static void main(String[] args) {
        due.promise(16);
        anyByteBehind();
        anyByteAhead();
        anyByteWithin();
        tokensAsLongAsCanBe();
        wordsThatMayBe();
        oneStatementOrMore();
        numbersThatMayBe();
        twoDigits();
        pupilsThereAre();
        roomForPupils();
        friendsInPair();
        friendsInPart();
        tooEarly();
        theWholeTape();
        whatItDoes();
        allOrNothing();
        theFirstFault();
        due.end();
    }

    private static void taken(String text, int statements) {
        DearPenFriend x = new DearPenFriend();
        due.is("list() of '" + text + "'", Due.list(x, text), statements);
        due.is("the tape after '" + text + "'", x.status(7), 0);
        due.is("refusals after '" + text + "'", Due.refusals(x), 0);
    }

    private static void fault(String text, int place) {
        DearPenFriend x = new DearPenFriend();
        due.is("list() of '" + text + "'", Due.list(x, text), -20 - place);
        due.is("the tape after '" + text + "'", x.status(7), 0);
        due.is("BAD after '" + text + "'", x.status(12), 1);
        due.is("refusals after '" + text + "'", Due.refusals(x), 1);
        due.is("pupils after '" + text + "'", x.status(0), 0);
    }

    /** "WORDS (a .. z), NUMBERS (digits), the SIGN ; - blanks (32) may stand anywhere between": each byte behind a statement. */
    private static void anyByteBehind() {
        for (int b = 0; b < 256; b++) {
            String text = "toil 0" + (char) b;
            if (b == ' ') {
                taken(text, 1);
            } else if (b == ';') {
                // a statement must come yet
                fault(text, 7);
            } else if (b >= '0' && b <= '9') {
                // 00 to 09
                taken(text, 1);
            } else {
                fault(text, 6);
            }
        }
    }

    /** Each byte ahead of a statement: only a blank may stand there; with a letter it is another WORD. */
    private static void anyByteAhead() {
        for (int b = 0; b < 256; b++) {
            if (b == ' ') {
                taken((char) b + "toil 0", 1);
            } else {
                fault((char) b + "toil 0", 0);
            }
        }
    }

    /** Each byte between WORD and NUMBER. */
    private static void anyByteWithin() {
        for (int b = 0; b < 256; b++) {
            String text = "toil" + (char) b + "5";
            if (b == ' ' || b == '0') {
                taken(text, 1);
            } else if (b >= 'a' && b <= 'z') {
                fault(text, 0);
            } else {
                fault(text, 4);
            }
        }
    }

    /** "TOKENS, each as long as can be". */
    private static void tokensAsLongAsCanBe() {
        taken("toil5", 1);
        taken("toil5;loss6;friday1", 3);
        taken("toil05;loss06", 2);
        taken("pupil0 0 0;likes0 0", 2);
        // one NUMBER of two digits, then another, and none
        fault("pupil00 0", 9);
        fault("pupil 0 00", 10);
        fault("pupil 000", 6);
        // one WORD
        fault("toiltoil 5", 0);
        fault("to il 5", 0);
        fault("toi l5", 0);
        fault("toil 5loss 6", 6);
        fault("toil 5 loss 6", 7);
        fault("toil 5 5", 7);
        taken("   toil   5   ;   loss   6   ", 2);
    }

    /** A WORD that is none of the seven can't stand there: another letter, one less, one more. */
    private static void wordsThatMayBe() {
        String[] words = {"pupil", "likes", "pair", "part", "loss", "toil", "friday"};
        String[] behind = {" 0 0 0", " 0 0", " 0 1", " 0", " 0", " 0", " 0"};
        for (int w = 0; w < words.length; w++) {
            String word = words[w];
            for (int i = 0; i < word.length(); i++) {
                fault(word.substring(0, i) + "z" + word.substring(i + 1) + behind[w], 0);
                fault(word.substring(0, i) + word.substring(i + 1) + behind[w], 0);
                fault(word.substring(0, i) + (char) (word.charAt(i) - 32) + word.substring(i + 1) + behind[w], 0);
                fault("toil 0;" + word.substring(0, i) + "a" + word.charAt(i) + word.substring(i + 1) + behind[w], 7);
            }
            fault(word + word.charAt(0) + behind[w], 0);
            fault("toil 0;" + word + "s" + behind[w], 7);
        }
    }

    /** "STATEMENTS, one or more, with ; between". */
    private static void oneStatementOrMore() {
        fault("", 0);
        fault(" ", 1);
        fault("     ", 5);
        taken("toil 1", 1);
        taken("toil 1;toil 2", 2);
        fault(";", 0);
        fault(" ;", 1);
        fault("toil 1;", 7);
        fault("toil 1; ", 8);
        fault(";toil 1", 0);
        fault("toil 1;;toil 2", 7);
        fault("toil 1; ;toil 2", 8);
        fault("toil 1 toil 2", 7);
        fault("5", 0);
        fault("z", 0);
        fault("ask 1", 0);
        StringBuilder many = new StringBuilder("loss0");
        for (int i = 1; i < 41; i++) {
            many.append(";loss").append(i % 10);
        }
        taken(many.toString(), 41);
    }

    /** Each NUMBER by its least and its greatest, and the one above that may not be. */
    private static void numbersThatMayBe() {
        taken("loss 0", 1);
        taken("loss 12", 1);
        fault("loss 13", 5);
        fault("loss 99", 5);
        taken("toil 0", 1);
        taken("toil 9", 1);
        fault("toil 10", 5);
        taken("friday 0", 1);
        taken("friday 1", 1);
        fault("friday 2", 7);
        taken("pupil 0 0 0", 1);
        taken("pupil 5 9 1", 1);
        fault("pupil 6 0 0", 6);
        fault("pupil 0 10 0", 8);
        fault("pupil 0 0 2", 10);
        taken("pupil 0 0 0;likes 0 0", 2);
        taken("pupil 0 0 0;likes 0 7", 2);
        fault("pupil 0 0 0;likes 0 8", 20);
        // no sign stands ahead of a NUMBER
        fault("loss -1", 5);
        fault("loss +1", 5);
    }

    /** "has more than 2 digits": even if it is as little. */
    private static void twoDigits() {
        taken("loss 01", 1);
        taken("loss 00", 1);
        fault("loss 001", 5);
        fault("loss 000", 5);
        taken("pupil 05 09 01", 1);
        fault("pupil 005 9 1", 6);
        fault("pupil 05 009 1", 9);
        fault("pupil 05 09 001", 12);
        taken("pupil 0 0 0;likes 00 07", 2);
        fault("pupil 0 0 0;likes 000 7", 18);
        fault("pupil 0 0 0;likes 00 007", 21);
        fault("loss 00000000001", 5);
        fault("loss 4294967297", 5);
        fault("loss 18446744073709551617", 5);
        fault("friday 100", 7);
    }

    /** X is a PUPIL that there is, of the list too if he is ahead. */
    private static void pupilsThereAre() {
        fault("likes 0 0", 6);
        fault("part 0", 5);
        fault("pair 0 1", 5);
        taken(TWO + "likes 1 0", 3);
        fault(TWO + "likes 2 0", 30);
        fault(TWO + "part 2", 29);
        fault(TWO + "pair 2 1", 29);
        fault(TWO + "pair 0 2", 31);
        fault(TWO + "likes 11 0", 30);
        fault("likes 0 0;" + TWO + "toil 1", 6);
        DearPenFriend x = new DearPenFriend();
        for (int i = 0; i < 12; i++) {
            x.pupil(0, 0, i % 2);
        }
        due.is("likes 11 0", Due.list(x, "likes 11 0;likes 9 0"), 2);
        due.is("likes 12 0", Due.list(x, "likes 12 0"), -26);
        due.is("pair 10 11", Due.list(x, "pair 10 11"), 1);
        due.is("part 12", Due.list(x, "part 12"), -25);
        due.is("part 11", Due.list(x, "part 11"), 1);
    }

    /** "what there is no room for: its word": of PUPILS, 12 at most, those of the list too. */
    private static void roomForPupils() {
        for (int there = 10; there <= 12; there++) {
            for (int more = 1; more <= 3; more++) {
                DearPenFriend x = new DearPenFriend();
                for (int i = 0; i < there; i++) {
                    x.pupil(0, 0, 0);
                }
                StringBuilder text = new StringBuilder("pupil 1 1 1");
                for (int i = 1; i < more; i++) {
                    text.append("; pupil 1 1 1");
                }
                boolean fits = there + more <= 12;
                int place = 13 * (12 - there);
                due.is(more + " more than " + there, Due.list(x, text.toString()), fits ? more : -20 - place);
                due.is("pupils", x.status(0), fits ? there + more : there);
                due.is("it isn't FULL, but BAD", x.status(16), 0);
                due.is("BAD", x.status(12), fits ? 0 : 1);
            }
        }
    }

    /** "pair X Y (X must be of SCHOOL 0, Y of 1, both without FRIEND ..)"; "one with a FRIEND in pair". */
    private static void friendsInPair() {
        String four = TWO + TWO;
        taken(four + "pair 0 1;pair 2 3", 6);
        taken(four + "pair 0 3;pair 2 1", 6);
        fault(four + "pair 1 0", 53);
        fault(four + "pair 1 3", 53);
        fault(four + "pair 0 0", 55);
        fault(four + "pair 0 2", 55);
        fault(four + "pair 0 1;pair 0 3", 62);
        fault(four + "pair 0 1;pair 2 1", 64);
        fault(four + "pair 0 1;pair 0 1", 62);
        taken(four + "pair 0 1;part 0;pair 0 3", 7);
        taken(four + "pair 0 1;part 1;pair 2 1", 7);
    }

    /** "without in part". */
    private static void friendsInPart() {
        taken(TWO + "pair 0 1;part 0", 4);
        taken(TWO + "pair 0 1;part 1", 4);
        fault(TWO + "part 0", 29);
        fault(TWO + "part 1", 29);
        fault(TWO + "pair 0 1;part 0;part 0", 45);
        fault(TWO + "pair 0 1;part 0;part 1", 45);
        fault("pupil 0 0 0;" + TWO + "pair 0 2;part 1", 50);
    }

    /** "THE TAPE's size, if it ends too early": every beginning of a list that may be. */
    private static void tooEarly() {
        String whole = "pupil 3 7 0;pupil 2 4 1;likes 1 2;pair 0 1;part 1;loss 12;toil 9;friday 1";
        String[] words = {"pupil", "likes", "pair", "part", "loss", "toil", "friday"};
        int stood = 0;
        for (int size = 0; size <= whole.length(); size++) {
            String text = whole.substring(0, size);
            String last = text.substring(text.lastIndexOf(';') + 1);
            String word = last.split(" ")[0];
            boolean known = false;
            for (String w : words) {
                known |= w.equals(word);
            }
            int numbers = last.trim().split(" +").length - 1;
            int needed = word.equals("pupil") ? 3 : word.equals("likes") || word.equals("pair") ? 2 : 1;
            if (known && numbers == needed) {
                taken(text, text.split(";").length);
                stood++;
            } else if (known || last.isEmpty()) {
                fault(text, size);
            } else {
                // a word that is none yet
                fault(text, text.lastIndexOf(';') + 1);
            }
        }
        due.is("how many of them stood", stood, 9);
    }

    /** "THE TAPE (bytes, 250 at most)": its last byte is read, and the fault may be its size. */
    private static void theWholeTape() {
        String blanks = " ".repeat(244);
        taken(blanks + "toil 5", 1);
        taken("toil 5" + blanks, 1);
        fault(" ".repeat(250), 250);
        fault(blanks + "  toil", 250);
        fault(" ".repeat(249) + "x", 249);
        fault(" ".repeat(243) + "toil 5;", 250);
    }

    /** "All comes to what there is": each statement by what it changes. */
    private static void whatItDoes() {
        DearPenFriend x = new DearPenFriend();
        due.is("pupils", Due.list(x, "pupil 3 9 0;pupil 4 0 1"), 2);
        int[][] fresh = {{3, 9, 0, 0, -1, 0, 0, 0}, {4, 0, 1, 0, -1, 0, 0, 0}};
        seen(x, fresh);
        due.is("likes, bit B besides", Due.list(x, "likes 0 0;likes 0 7;likes 0 7;likes 1 3"), 4);
        due.is("likes of 0", x.pupilOf(0, 3), 129);
        due.is("likes of 1", x.pupilOf(1, 3), 8);
        due.is("likes besides those he had", Due.list(x, "likes 0 1"), 1);
        due.is("likes of 0", x.pupilOf(0, 3), 131);
        due.is("pair", Due.list(x, "pair 0 1"), 1);
        int[][] paired = {{3, 9, 0, 131, 1, 1, 0, 0}, {4, 0, 1, 8, 0, 0, 0, 0}};
        seen(x, paired);
        Due.live(x, 300, 200, 300);
        due.is("part, by the other; and pair again", Due.list(x, "part 1;pair 0 1"), 2);
        seen(x, paired);
        Due.live(x, 100, 301);
        due.is("part", Due.list(x, "part 0"), 1);
        int[][] parted = {{3, 9, 0, 131, -1, 0, 0, 0}, {4, 0, 1, 8, -1, 0, 0, 0}};
        seen(x, parted);
        due.is("loss, toil, friday", Due.list(x, "loss 12;toil 9;friday 1;toil 8"), 4);
        int[] status = {2, 0, 12, 8, 1, 0, 0, 0, 1};
        for (int what = 0; what < status.length; what++) {
            due.is("status(" + what + ")", x.status(what), status[what]);
        }
        due.is("refusals", Due.refusals(x), 0);
    }

    private static void seen(DearPenFriend x, int[][] pupils) {
        for (int p = 0; p < pupils.length; p++) {
            for (int what = 0; what < 8; what++) {
                due.is("pupilOf(" + p + ", " + what + ")", x.pupilOf(p, what), pupils[p][what]);
            }
        }
    }

    /** ".. or nothing": behind each kind of statement a fault; of all that stands only BAD and THE TAPE change. */
    private static void allOrNothing() {
        String[] statements = {"pupil 5 5 1", "likes 2 7", "pair 2 3", "part 0", "part 5", "loss 9", "toil 9", "friday 0",
            "part 0;pair 0 1", "part 4;pair 4 3;likes 4 0;pupil 0 0 0;likes 6 1"};
        for (String statement : statements) {
            nothing(statement + ";x", statement.length() + 1);
            nothing(statement + ";", statement.length() + 1);
            nothing(statement + " 5", statement.length() + 1);
        }
        nothing("", 0);
        nothing("part 2", 5);
    }

    private static void nothing(String text, int place) {
        DearPenFriend x = Standing.rich();
        x.wipe();
        due.is("list() of '" + text + "'", Due.list(x, text), -20 - place);
        DearPenFriend same = Standing.rich();
        same.wipe();
        same.part(99);
        rich.compare("'" + text + "'", Standing.picture(x), Standing.picture(same));
    }

    /** "The FAULT: the place of the first byte of the first TOKEN that can't stand there". */
    private static void theFirstFault() {
        fault("pupil 6 10 2", 6);
        fault("pupil 5 10 2", 8);
        fault("pupil 5 9 2 x", 10);
        fault("pupil 5 9 1 x", 12);
        fault("pupil ; 0 0", 6);
        fault("pupil loss 0 0", 6);
        fault("likes 9 9", 6);
        fault("loss toil 5", 5);
        fault("loss;toil 5", 4);
        fault("\u0000 toil 55", 0);
        fault("toil 55 \u0000", 5);
        fault(TWO + "pair 1 9", 29);
        fault(TWO + "pair 0 1;pair 1 0", 38);
        fault(TWO + "likes 0 9;part 0", 32);
    }
}
