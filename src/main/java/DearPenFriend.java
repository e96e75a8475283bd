/** Pupils of two schools, paired by what they like, and the letters that they write, owe or lose. */
public final class DearPenFriend {
    public static final int NONE = -1;

    private static final int BAD = -2;
    private static final int OTHER = -3;
    private static final int NOTHING = -4;
    private static final int STUCK = -5;
    private static final int FULL = -6;

    private static final int PUPIL = 0;
    private static final int LONG = 1;
    private static final int ASHAMED = 2;
    private static final int WINDY = 3;
    private static final int PROUD = 4;
    private static final int COPIER = 5;
    private static final int KINDS = 6;

    private static final int MOST_PUPILS = 12;
    private static final int MOST_A = 9;
    private static final int INTERESTS = 8;
    private static final int WAYS = 12;
    private static final int MOST_TOIL = 9;
    private static final int MOST_SILENT = 99;
    private static final int MOST_LINES = 99;
    private static final int FRIDAY_LINES = 10;
    private static final int MILLION = 1_000_000;
    private static final int MOST_WEEKS_AHEAD = 12;
    private static final int FRIDAY_WEEKS = 4;
    private static final int MOST_WEEKS_GONE = 99;
    private static final int SHELVES = 8;
    private static final int SORTS = 5;
    private static final int MOST_ELEMENTS = 40;
    private static final int MOST_BYTES = 250;
    private static final int MOST_ROWS_PAIRED = 6;

    private final Schools now;
    private final Schools thought;
    private final Schools kept;
    private boolean isKept;
    private final Matching matching;
    private final Shelf[] shelves;
    private final Tape tape;
    private final int[] refusals;

    public DearPenFriend() {
        now = new Schools();
        thought = new Schools();
        kept = new Schools();
        isKept = false;
        matching = new Matching();
        shelves = new Shelf[SHELVES];
        for (int i = 0; i < SHELVES; i++) {
            shelves[i] = new Shelf();
        }
        tape = new Tape();
        refusals = new int[1 - FULL];
    }

    // ---- the shelves ----

    public int row(int s, int sort, int n) {
        Shelf shelf = shelfAt(s);
        if (shelf == null || !within(sort, SORTS - 1) || !within(n, MOST_ELEMENTS)) {
            return refuse(BAD);
        }
        shelf.putRow(sort, n);
        return 1;
    }

    public int set(int s, int i, long v) {
        Shelf shelf = shelfAt(s);
        if (shelf == null) {
            return refuse(BAD);
        }
        if (shelf.state != Shelf.ROW) {
            return refuse(shelf.noRow());
        }
        if (i < 0 || i >= shelf.size) {
            return refuse(BAD);
        }
        shelf.putCell(i, v);
        return 1;
    }

    public int copy(int p, int q, int i, int j, int n) {
        Shelf from = shelfAt(p);
        Shelf to = shelfAt(q);
        if (from == null || to == null) {
            return refuse(BAD);
        }
        if (from.state == Shelf.ONE || to.state == Shelf.ONE) {
            return refuse(OTHER);
        }
        boolean bothRows = from.state == Shelf.ROW && to.state == Shelf.ROW;
        if (bothRows && from.sort != to.sort) {
            return refuse(OTHER);
        }
        if (!bothRows) {
            return refuse(NOTHING);
        }
        if (!from.hasPlaces(i, n) || !to.hasPlaces(j, n)) {
            return refuse(BAD);
        }
        System.arraycopy(from.cells, i, to.cells, j, n);
        return n;
    }

    public long element(int s, int i) {
        Shelf shelf = shelfAt(s);
        return shelf == null ? 0 : shelf.cellAt(i);
    }

    public int holds(int s) {
        Shelf shelf = shelfAt(s);
        if (shelf == null || shelf.state == Shelf.EMPTY) {
            return NONE;
        }
        return shelf.state == Shelf.ROW ? shelf.sort : 10 + shelf.number;
    }

    public int show(int s, int pupil) {
        Shelf shelf = shelfAt(s);
        if (shelf == null || (pupil != NONE && now.at(pupil) == null)) {
            return refuse(BAD);
        }
        if (pupil == NONE) {
            shelf.clear();
        } else {
            shelf.putPupil(pupil);
        }
        return 1;
    }

    public int says(int s, int kind) {
        Shelf shelf = shelfAt(s);
        if (shelf == null || !within(kind, KINDS - 1)) {
            return refuse(BAD);
        }
        if (shelf.state == Shelf.ROW) {
            return refuse(OTHER);
        }
        Pupil one = shelf.state == Shelf.ONE ? now.at(shelf.number) : null;
        if (one == null) {
            return refuse(NOTHING);
        }
        if (!isUnder(one.kind, kind)) {
            return refuse(OTHER);
        }
        if (kind == PUPIL) {
            return one.likes;
        }
        if (one.friend == null) {
            return 0;
        }
        boolean ofWill = kind == ASHAMED || kind == PROUD;
        return ofWill ? now.willTo(one, one.friend) : now.linesTo(one, one.friend);
    }

    // ---- pupils and pairs ----

    public int pupil(int kind, int a, int school) {
        if (!within(kind, KINDS - 1) || !within(a, MOST_A) || !within(school, 1)) {
            return refuse(BAD);
        }
        if (now.count >= MOST_PUPILS) {
            return refuse(FULL);
        }
        return now.add(kind, a, school);
    }

    public int likes(int pupil, int bit, boolean is) {
        Pupil one = now.at(pupil);
        if (one == null || !within(bit, INTERESTS - 1)) {
            return refuse(BAD);
        }
        int did = (one.likes >> bit) & 1;
        one.likes = is ? one.likes | (1 << bit) : one.likes & ~(1 << bit);
        return did;
    }

    public int pair(int pupil, int other) {
        Pupil one = now.at(pupil);
        Pupil two = now.at(other);
        if (one == null || two == null) {
            return refuse(BAD);
        }
        if (!one.isFree(0) || !two.isFree(1)) {
            return refuse(STUCK);
        }
        one.join(two);
        return one.commonWith(two);
    }

    public int part(int pupil) {
        Pupil one = now.at(pupil);
        if (one == null) {
            return refuse(BAD);
        }
        Pupil friend = one.friend;
        if (friend == null) {
            return refuse(STUCK);
        }
        one.leave();
        return friend.number;
    }

    public int ask(int what, int v) {
        int most = what == 0 ? WAYS : what == 1 ? MOST_TOIL : 1;
        if (!within(what, 2) || !within(v, most)) {
            return refuse(BAD);
        }
        int before;
        if (what == 0) {
            before = now.loss;
            now.loss = v;
        } else if (what == 1) {
            before = now.toil;
            now.toil = v;
        } else {
            before = now.friday;
            now.friday = v;
        }
        return before;
    }

    // ---- the tape ----

    public int feed(int letter) {
        if (!within(letter, 255)) {
            return refuse(BAD);
        }
        if (tape.size >= MOST_BYTES) {
            return refuse(FULL);
        }
        tape.put(letter);
        return tape.size;
    }

    public int wipe() {
        int before = tape.size;
        tape.size = 0;
        return before;
    }

    public int list() {
        thought.takeAll(now);
        int statements = tape.readInto(thought);
        tape.size = 0;
        if (statements == NONE) {
            refuse(BAD);
            return -20 - tape.fault;
        }
        now.takeAll(thought);
        return statements;
    }

    // ---- one pupil, one pair ----

    public int pupilOf(int pupil, int what) {
        Pupil one = now.at(pupil);
        if (one == null) {
            return refuse(BAD);
        }
        switch (what) {
            case 0:
                return one.kind;
            case 1:
                return one.a;
            case 2:
                return one.school;
            case 3:
                return one.likes;
            case 4:
                return one.friend == null ? NONE : one.friend.number;
            case 5:
                return one.owes ? 1 : 0;
            case 6:
                return one.silent;
            case 7:
                return one.length;
            default:
                return refuse(BAD);
        }
    }

    public int common(int pupil, int other) {
        Pupil one = now.at(pupil);
        Pupil two = now.at(other);
        if (one == null || two == null) {
            return refuse(BAD);
        }
        return one.commonWith(two);
    }

    public int will(int pupil, int what) {
        Pupil one = now.at(pupil);
        if (one == null || !within(what, 1)) {
            return refuse(BAD);
        }
        if (one.friend == null) {
            return refuse(STUCK);
        }
        return what == 0 ? now.willTo(one, one.friend) : now.linesTo(one, one.friend);
    }

    public int over(int pupil) {
        Pupil one = now.at(pupil);
        if (one == null) {
            return refuse(BAD);
        }
        if (one.friend == null) {
            return refuse(STUCK);
        }
        return now.isOver(one) ? 1 : 0;
    }

    public int still(int pupil, int n) {
        Pupil one = now.at(pupil);
        if (one == null || !within(n, MOST_WEEKS_AHEAD)) {
            return refuse(BAD);
        }
        if (one.friend == null) {
            return refuse(STUCK);
        }
        return now.stillAfter(one, n);
    }

    public int again(int pupil, int v) {
        Pupil one = now.at(pupil);
        if (one == null || !within(v, MILLION)) {
            return refuse(BAD);
        }
        if (one.friend == null) {
            return refuse(STUCK);
        }
        for (int n = 1; n <= MOST_WEEKS_AHEAD; n++) {
            if (now.stillAfter(one, n) >= v) {
                return n;
            }
        }
        return NONE;
    }

    public int lost(int pupil, int s) {
        Pupil one = now.at(pupil);
        if (one == null || !within(s, MOST_ELEMENTS)) {
            return refuse(BAD);
        }
        if (one.friend == null) {
            return refuse(STUCK);
        }
        return now.lostOrOver(one, s);
    }

    public int lasts(int pupil) {
        Pupil one = now.at(pupil);
        if (one == null) {
            return refuse(BAD);
        }
        if (one.friend == null) {
            return refuse(STUCK);
        }
        for (int more = 0; more <= MOST_SILENT; more++) {
            if (now.willIfSilent(one, one.friend, one.silent + more) == 0) {
                return more;
            }
        }
        return NONE;
    }

    public int wish(int pupil) {
        thought.takeAll(now);
        Pupil one = thought.at(pupil);
        if (one == null) {
            return refuse(BAD);
        }
        Pupil friend = one.friend;
        if (friend == null) {
            return refuse(STUCK);
        }
        int had = one.likes;
        int most = thought.willTo(friend, one);
        int wished = NONE;
        for (int bit = 0; bit < INTERESTS; bit++) {
            one.likes = had | (1 << bit);
            int raised = thought.willTo(friend, one);
            if (raised > most) {
                most = raised;
                wished = bit;
            }
        }
        return wished;
    }

    public int asPair(int pupil, int other, int what) {
        Pupil one = now.at(pupil);
        Pupil two = now.at(other);
        if (one == null || two == null || one.school == two.school || !within(what, 1)) {
            return refuse(BAD);
        }
        return what == 0 ? now.willTo(one, two) : now.linesTo(one, two);
    }

    public int bears(int pupil, int n, int v) {
        thought.takeAll(now);
        Pupil one = thought.at(pupil);
        if (one == null || !within(n, MOST_WEEKS_AHEAD) || !within(v, MILLION)) {
            return refuse(BAD);
        }
        if (one.friend == null) {
            return refuse(STUCK);
        }
        for (int loss = WAYS; loss >= 0; loss--) {
            thought.loss = loss;
            if (thought.stillAfter(one, n) >= v) {
                return loss;
            }
        }
        return NONE;
    }

    public int drift(int pupil, int n) {
        thought.takeAll(now);
        Pupil one = thought.at(pupil);
        if (one == null || !within(n, MOST_ELEMENTS)) {
            return refuse(BAD);
        }
        Pupil writer = one.debtor();
        if (writer == null || writer.friend == null) {
            return refuse(STUCK);
        }
        Pupil last = writer.friend;
        for (int i = 0; i < n; i++) {
            Pupil next = last;
            thought.write(writer, true);
            last = writer;
            writer = next;
        }
        return last.length;
    }

    // ---- who should be paired ----

    public int paired(int i) {
        matching.solve(now);
        if (i == NONE) {
            return matching.together;
        }
        if (i < 0 || i >= matching.rowCount) {
            return refuse(BAD);
        }
        Pupil got = matching.gotBy(i);
        return got == null ? NONE : got.number;
    }

    public int left() {
        matching.solve(now);
        int lonely = 0;
        for (Pupil one : now.pupils) {
            if (one.isFree(0) || one.isFree(1)) {
                lonely++;
            }
        }
        return lonely - 2 * matching.pairs;
    }

    public int anew() {
        for (Pupil one : now.pupils) {
            if (one.leadsPair() && now.isOver(one)) {
                one.leave();
            }
        }
        matching.solve(now);
        for (int i = 0; i < matching.rowCount; i++) {
            Pupil one = matching.rowAt(i);
            Pupil got = matching.gotBy(i);
            if (one != null && got != null) {
                one.join(got);
            }
        }
        return matching.pairs;
    }

    public int best(int pupil) {
        Pupil one = now.at(pupil);
        if (one == null) {
            return refuse(BAD);
        }
        Pupil found = now.bestFor(one);
        return found == null ? refuse(STUCK) : found.number;
    }

    public int same(int what) {
        if (!within(what, 2)) {
            return refuse(BAD);
        }
        if (what == 2) {
            return now.twins();
        }
        int bit = now.sharedInterest();
        return what == 0 ? bit : now.howManyLike(bit);
    }

    public int near(int pupil, int v) {
        Pupil one = now.at(pupil);
        if (one == null || !within(v, INTERESTS)) {
            return refuse(BAD);
        }
        int bits = 0;
        for (Pupil other : now.pupils) {
            if (other.here && other.school != one.school && one.commonWith(other) >= v) {
                bits |= 1 << other.number;
            }
        }
        return bits;
    }

    public int wanted(int v) {
        if (!within(v, INTERESTS)) {
            return refuse(BAD);
        }
        int pairs = 0;
        for (Pupil one : now.pupils) {
            Pupil taken = one.here && one.school == 0 ? now.bestFor(one) : null;
            if (taken != null && one.commonWith(taken) >= v) {
                pairs++;
            }
        }
        return pairs;
    }

    // ---- all pairs, all pupils ----

    public int may() {
        return now.countPairs() - now.countOver();
    }

    public int fridays() {
        thought.takeAll(now);
        thought.friday = 1;
        int onFridays = thought.stillTogether(FRIDAY_WEEKS);
        thought.friday = 0;
        return onFridays - thought.stillTogether(FRIDAY_WEEKS);
    }

    public int tongue() {
        thought.takeAll(now);
        for (int toil = MOST_TOIL; toil >= 0; toil--) {
            thought.toil = toil;
            if (thought.countOver() == 0) {
                return toil;
            }
        }
        return NONE;
    }

    public int first(int school, int what) {
        if (!within(school, 1) || !within(what, 2)) {
            return refuse(BAD);
        }
        Pupil found = null;
        for (Pupil one : now.pupils) {
            boolean goes = one.here && one.school == school;
            if (goes && (found == null || one.measure(what) > found.measure(what))) {
                found = one;
            }
        }
        return found == null ? refuse(STUCK) : found.number;
    }

    public int mean() {
        int pairs = now.countPairs();
        if (pairs == 0) {
            return refuse(STUCK);
        }
        int together = 0;
        for (Pupil one : now.pupils) {
            if (one.leadsPair()) {
                together += one.commonWith(one.friend);
            }
        }
        return 1000 * together / pairs;
    }

    public int weakest(int n) {
        if (!within(n, MOST_WEEKS_AHEAD)) {
            return refuse(BAD);
        }
        Pupil found = null;
        int least = 0;
        for (Pupil one : now.pupils) {
            if (one.leadsPair()) {
                int likely = now.stillAfter(one, n);
                if (found == null || likely < least) {
                    found = one;
                    least = likely;
                }
            }
        }
        return found == null ? refuse(STUCK) : found.number;
    }

    public int with(int n) {
        if (!within(n, INTERESTS)) {
            return refuse(BAD);
        }
        int bits = 0;
        for (Pupil one : now.pupils) {
            if (one.here && Integer.bitCount(one.likes) == n) {
                bits |= 1 << one.number;
            }
        }
        return bits;
    }

    public int alike() {
        int pairs = 0;
        for (Pupil one : now.pupils) {
            if (one.leadsPair() && one.length == one.friend.length) {
                pairs++;
            }
        }
        return pairs;
    }

    public int keen() {
        Pupil found = null;
        int most = 0;
        for (Pupil one : now.pupils) {
            if (one.here && one.owes) {
                int wills = now.willTo(one, one.friend);
                if (found == null || wills > most) {
                    found = one;
                    most = wills;
                }
            }
        }
        return found == null ? refuse(STUCK) : found.number;
    }

    public int owing() {
        int bits = 0;
        for (Pupil one : now.pupils) {
            if (one.here && one.owes) {
                bits |= 1 << one.number;
            }
        }
        return bits;
    }

    // ---- what is told by rows ----

    public int meant(int s, int n, int pupil) {
        Shelf shelf = shelfAt(s);
        Pupil one = now.at(pupil);
        if (shelf == null || !within(n, MOST_ELEMENTS) || one == null) {
            return refuse(BAD);
        }
        int unfit = shelf.unfitFor(n);
        if (unfit != 0) {
            return refuse(unfit);
        }
        if (one.friend == null || !one.owes || !shelf.isYesNo(n)) {
            return refuse(STUCK);
        }
        int kinds = 0;
        for (int kind = 0; kind < KINDS; kind++) {
            thought.takeAll(now);
            if (thought.couldHaveTold(pupil, kind, shelf, n)) {
                kinds |= 1 << kind;
            }
        }
        return kinds;
    }

    public int judge(int s, int n) {
        int unfit = unfitYear(s, n);
        return unfit != 0 ? refuse(unfit) : firstWrong(s, n);
    }

    public int behind(int s, int n, int what) {
        if (!within(what, 2)) {
            return refuse(BAD);
        }
        int unfit = unfitYear(s, n);
        if (unfit != 0) {
            return refuse(unfit);
        }
        if (firstWrong(s, n) != NONE) {
            return refuse(STUCK);
        }
        switch (what) {
            case 0:
                return thought.allLengths();
            case 1:
                return thought.longestSilent();
            default:
                return thought.countOver();
        }
    }

    public int done(int s, int n) {
        int unfit = unfitYear(s, n);
        if (unfit != 0) {
            return refuse(unfit);
        }
        if (firstWrong(s, n) != NONE) {
            return refuse(STUCK);
        }
        now.takeAll(thought);
        return now.allLengths();
    }

    // ---- in truth ----

    public int weeks(int n) {
        if (n < 1 || n > MOST_WEEKS_GONE) {
            return refuse(BAD);
        }
        int came = 0;
        for (int i = 0; i < n; i++) {
            came += now.passWeek();
        }
        return came;
    }

    public int seed(int v) {
        int before = now.seed;
        now.seed = v;
        return before;
    }

    public int image() {
        kept.takeAll(now);
        isKept = true;
        return 1;
    }

    public int back() {
        if (!isKept) {
            return refuse(STUCK);
        }
        now.takeAll(kept);
        for (Shelf shelf : shelves) {
            if (shelf.state == Shelf.ONE && now.at(shelf.number) == null) {
                shelf.clear();
            }
        }
        return 1;
    }

    public int status(int what) {
        switch (what) {
            case 0:
                return now.count;
            case 1:
                return now.countPairs();
            case 2:
                return now.loss;
            case 3:
                return now.toil;
            case 4:
                return now.friday;
            case 5:
                return now.week;
            case 6:
                return now.allLengths();
            case 7:
                return tape.size;
            case 8:
                return now.seed;
            case 9:
                return countShelvesHeld();
            default:
                return what >= 12 && what <= 16 ? refusals[what - 10] : NONE;
        }
    }

    // ---- helpers of the face ----

    private int refuse(int number) {
        if (number <= BAD && number >= FULL) {
            refusals[-number]++;
        }
        return number;
    }

    private static boolean within(int v, int most) {
        return v >= 0 && v <= most;
    }

    private Shelf shelfAt(int s) {
        return s >= 0 && s < SHELVES ? shelves[s] : null;
    }

    private int countShelvesHeld() {
        int held = 0;
        for (Shelf shelf : shelves) {
            if (shelf.state != Shelf.EMPTY) {
                held++;
            }
        }
        return held;
    }

    private static boolean isUnder(int kind, int above) {
        boolean direct = kind == above || above == PUPIL;
        return direct || (kind == WINDY && above == LONG) || (kind == PROUD && above == ASHAMED);
    }

    private int unfitYear(int s, int n) {
        Shelf shelf = shelfAt(s);
        return shelf == null || !within(n, MOST_ELEMENTS) ? BAD : shelf.unfitFor(n);
    }

    /** Leaves in thought what the told year comes to, up to its first wrong deed. */
    private int firstWrong(int s, int n) {
        thought.takeAll(now);
        Shelf shelf = shelfAt(s);
        for (int i = 0; shelf != null && i < n; i++) {
            if (!thought.tellDeed(shelf.cellAt(i))) {
                return i;
            }
        }
        return NONE;
    }

    // ---- the classes inside ----

    private static final class Pupil {
        final int number;
        boolean here;
        int kind;
        int a;
        int school;
        int likes;
        Pupil friend;
        boolean owes;
        int silent;
        int length;

        Pupil(int number) {
            this.number = number;
        }

        void enter(int newKind, int newA, int newSchool) {
            here = true;
            kind = newKind;
            a = newA;
            school = newSchool;
            likes = 0;
            friend = null;
            forget();
        }

        private void forget() {
            owes = false;
            silent = 0;
            length = 0;
        }

        boolean isFree(int ofSchool) {
            return here && school == ofSchool && friend == null;
        }

        /** A pair is met once, at its pupil of school 0. */
        boolean leadsPair() {
            return here && school == 0 && friend != null;
        }

        void join(Pupil other) {
            forget();
            other.forget();
            friend = other;
            other.friend = this;
            owes = true;
        }

        void leave() {
            if (friend != null) {
                friend.forget();
                friend.friend = null;
            }
            friend = null;
            forget();
        }

        /** Whose letter is awaited in his pair; null without a friend. */
        Pupil debtor() {
            return owes ? this : friend;
        }

        int commonWith(Pupil other) {
            return Integer.bitCount(likes & other.likes);
        }

        int measure(int what) {
            if (what == 0) {
                return length;
            }
            return what == 1 ? silent : Integer.bitCount(likes);
        }

        /** All but the friend, who is another object in other schools. */
        void takeFrom(Pupil other) {
            here = other.here;
            kind = other.kind;
            a = other.a;
            school = other.school;
            likes = other.likes;
            owes = other.owes;
            silent = other.silent;
            length = other.length;
        }
    }

    private static final class Schools {
        final Pupil[] pupils;
        int count;
        int loss;
        int toil;
        int friday;
        int week;
        int seed;

        Schools() {
            pupils = new Pupil[MOST_PUPILS];
            for (int i = 0; i < MOST_PUPILS; i++) {
                pupils[i] = new Pupil(i);
            }
            count = 0;
            loss = 1;
            toil = 1;
            friday = 0;
            week = 0;
            seed = 1;
        }

        Pupil at(int number) {
            return number >= 0 && number < count && number < MOST_PUPILS ? pupils[number] : null;
        }

        int add(int kind, int a, int school) {
            if (count < 0 || count >= MOST_PUPILS) {
                return NONE;
            }
            pupils[count].enter(kind, a, school);
            count++;
            return count - 1;
        }

        void takeAll(Schools other) {
            count = other.count;
            for (int i = 0; i < MOST_PUPILS; i++) {
                Pupil theirs = other.pupils[i];
                pupils[i].takeFrom(theirs);
                pupils[i].friend = theirs.friend == null ? null : at(theirs.friend.number);
            }
            loss = other.loss;
            toil = other.toil;
            friday = other.friday;
            week = other.week;
            seed = other.seed;
        }

        // -- letters --

        int willTo(Pupil one, Pupil other) {
            return willIfSilent(one, other, one.silent);
        }

        int willIfSilent(Pupil one, Pupil other, int silent) {
            if (other == null) {
                return 0;
            }
            int wills = 4 + 2 * one.commonWith(other) - toil - silent / 3;
            switch (one.kind) {
                case LONG:
                    wills += 1;
                    break;
                case WINDY:
                    wills += 1 - one.length / 4;
                    break;
                case ASHAMED:
                    wills -= silent;
                    break;
                case PROUD:
                    wills = silent >= one.a ? 0 : wills - silent;
                    break;
                case COPIER:
                    wills += one.a / 3;
                    break;
                default:
                    break;
            }
            if (friday == 1) {
                wills += 2;
            }
            return Math.max(0, Math.min(WAYS, wills));
        }

        int linesTo(Pupil one, Pupil other) {
            int answered = other == null ? 0 : other.length;
            int lines = 5 + one.a + answered / 2;
            switch (one.kind) {
                case LONG:
                    lines = 2 * lines;
                    break;
                case WINDY:
                    lines = 2 * lines + 5;
                    break;
                case ASHAMED:
                case PROUD:
                    lines = Math.max(1, lines - one.silent);
                    break;
                case COPIER:
                    lines = Math.max(1, answered);
                    break;
                default:
                    break;
            }
            return Math.min(friday == 1 ? FRIDAY_LINES : MOST_LINES, lines);
        }

        void write(Pupil one, boolean comes) {
            one.length = linesTo(one, one.friend);
            one.silent = 0;
            if (comes && one.friend != null) {
                one.owes = false;
                one.friend.owes = true;
            }
        }

        void keepSilent(Pupil one) {
            one.silent = Math.min(MOST_SILENT, one.silent + 1);
        }

        boolean isOver(Pupil one) {
            Pupil debtor = one.debtor();
            return debtor != null && willTo(debtor, debtor.friend) == 0;
        }

        // -- what comes of it --

        int stillAfter(Pupil one, int n) {
            Pupil debtor = one.debtor();
            if (debtor == null) {
                return 0;
            }
            int missing = MILLION;
            for (int i = 0; i < n; i++) {
                int wills = willIfSilent(debtor, debtor.friend, debtor.silent + i);
                missing = missing * (WAYS * WAYS - wills * (WAYS - loss)) / (WAYS * WAYS);
            }
            return MILLION - missing;
        }

        int stillTogether(int n) {
            int likely = 0;
            for (Pupil one : pupils) {
                if (one.leadsPair()) {
                    likely += stillAfter(one, n);
                }
            }
            return likely;
        }

        int lostOrOver(Pupil one, int s) {
            Pupil debtor = one.debtor();
            if (debtor == null) {
                return 0;
            }
            int wills = willIfSilent(debtor, debtor.friend, 0);
            int allLost = MILLION;
            int neverWrote = MILLION;
            for (int i = 0; i < s; i++) {
                allLost = allLost * loss / WAYS;
                neverWrote = neverWrote * (WAYS - wills) / WAYS;
            }
            int either = allLost + neverWrote;
            return either == 0 ? 0 : 1000 * allLost / either;
        }

        Pupil bestFor(Pupil one) {
            Pupil found = null;
            for (Pupil other : pupils) {
                boolean across = other.here && other.school != one.school;
                if (across && (found == null || one.commonWith(other) > one.commonWith(found))) {
                    found = other;
                }
            }
            return found;
        }

        int howManyLike(int bit) {
            int many = 0;
            for (Pupil one : pupils) {
                if (one.here && ((one.likes >> bit) & 1) == 1) {
                    many++;
                }
            }
            return many;
        }

        int sharedInterest() {
            int found = 0;
            for (int bit = 1; bit < INTERESTS; bit++) {
                if (howManyLike(bit) > howManyLike(found)) {
                    found = bit;
                }
            }
            return found;
        }

        int twins() {
            for (Pupil one : pupils) {
                for (Pupil other : pupils) {
                    boolean later = one.here && other.here && one.number < other.number;
                    if (later && one.school == other.school && one.likes == other.likes) {
                        return 20 * one.number + other.number;
                    }
                }
            }
            return NONE;
        }

        int countPairs() {
            int pairs = 0;
            for (Pupil one : pupils) {
                if (one.leadsPair()) {
                    pairs++;
                }
            }
            return pairs;
        }

        int countOver() {
            int pairs = 0;
            for (Pupil one : pupils) {
                if (one.leadsPair() && isOver(one)) {
                    pairs++;
                }
            }
            return pairs;
        }

        int allLengths() {
            int lines = 0;
            for (Pupil one : pupils) {
                if (one.here) {
                    lines += one.length;
                }
            }
            return lines;
        }

        int longestSilent() {
            int most = 0;
            for (Pupil one : pupils) {
                if (one.here) {
                    most = Math.max(most, one.silent);
                }
            }
            return most;
        }

        // -- what is told, and what comes to pass --

        /** Goes through the told weeks as if one were of a kind: whether none speaks against it. */
        boolean couldHaveTold(int number, int kind, Shelf told, int n) {
            Pupil one = at(number);
            if (one == null) {
                return false;
            }
            one.kind = kind;
            for (int i = 0; i < n; i++) {
                int wills = willTo(one, one.friend);
                if (told.cellAt(i) == 1) {
                    if (wills == 0) {
                        return false;
                    }
                    // he owes again at once, so the debt doesn't pass on
                    write(one, false);
                } else {
                    if (wills == WAYS) {
                        return false;
                    }
                    keepSilent(one);
                }
            }
            return true;
        }

        /** Does what a told deed says; false, and nothing, if it can't be. */
        boolean tellDeed(long deed) {
            if (deed < 100 || deed > 399) {
                return false;
            }
            int way = (int) (deed / 100);
            Pupil one = at((int) (deed % 100));
            if (one == null || one.friend == null || !one.owes) {
                return false;
            }
            int wills = willTo(one, one.friend);
            if (wills == (way == 3 ? WAYS : 0)) {
                return false;
            }
            if (way == 3) {
                keepSilent(one);
            } else {
                write(one, way == 1);
            }
            return true;
        }

        int passWeek() {
            week++;
            int came = 0;
            for (Pupil one : pupils) {
                Pupil debtor = one.leadsPair() ? one.debtor() : null;
                if (debtor != null) {
                    if (drawWay() >= willTo(debtor, debtor.friend)) {
                        keepSilent(debtor);
                    } else {
                        boolean comes = drawWay() >= loss;
                        write(debtor, comes);
                        came += comes ? 1 : 0;
                    }
                }
            }
            return came;
        }

        private int drawWay() {
            seed = seed * 1103515245 + 12345;
            return (seed >>> 16) % WAYS;
        }
    }

    /** Who gets whom, so that most is common, then most are paired, then the first by rows. */
    private static final class Matching {
        // one row leaves eleven columns at most, two leave ten: 2048 stands either way, more rows fewer
        private static final int MOST_STANDS = 2048;
        private static final int PER_COMMON = 8;

        final Pupil[] rows;
        final Pupil[] columns;
        final Pupil[] gets;
        // worth of the rows from one on, when some columns are taken
        final int[] worth;
        int rowCount;
        int columnCount;
        int together;
        int pairs;

        Matching() {
            rows = new Pupil[MOST_ROWS_PAIRED];
            columns = new Pupil[MOST_PUPILS];
            gets = new Pupil[MOST_ROWS_PAIRED];
            worth = new int[MOST_STANDS];
        }

        Pupil rowAt(int i) {
            return i >= 0 && i < rowCount && i < MOST_ROWS_PAIRED ? rows[i] : null;
        }

        Pupil gotBy(int i) {
            return i >= 0 && i < rowCount && i < MOST_ROWS_PAIRED ? gets[i] : null;
        }

        private Pupil columnAt(int j) {
            return j >= 0 && j < columnCount && j < MOST_PUPILS ? columns[j] : null;
        }

        void solve(Schools schools) {
            gather(schools);
            for (int row = rowCount - 1; row >= 0; row--) {
                for (int taken = 0; taken < 1 << columnCount; taken++) {
                    // no more can be taken than rows have chosen before
                    if (Integer.bitCount(taken) <= row) {
                        weigh(row, taken);
                    }
                }
            }
            choose();
        }

        private void gather(Schools schools) {
            rowCount = 0;
            columnCount = 0;
            for (Pupil one : schools.pupils) {
                if (one.isFree(0) && rowCount < MOST_ROWS_PAIRED) {
                    rows[rowCount] = one;
                    rowCount++;
                }
                if (one.isFree(1) && columnCount < MOST_PUPILS) {
                    columns[columnCount] = one;
                    columnCount++;
                }
            }
        }

        private int worthFrom(int row, int taken) {
            int stand = (row << columnCount) + taken;
            return row < rowCount && stand >= 0 && stand < MOST_STANDS ? worth[stand] : 0;
        }

        /** What a row's choice and the best of all later rows are worth; j NONE: nobody. */
        private int worthOf(int row, int j, int taken) {
            Pupil one = rowAt(row);
            Pupil other = columnAt(j);
            if (one == null || other == null) {
                return worthFrom(row + 1, taken);
            }
            int gain = PER_COMMON * one.commonWith(other) + 1;
            return gain + worthFrom(row + 1, taken | (1 << j));
        }

        private void weigh(int row, int taken) {
            int most = worthOf(row, NONE, taken);
            for (int j = 0; j < columnCount; j++) {
                if (((taken >> j) & 1) == 0) {
                    most = Math.max(most, worthOf(row, j, taken));
                }
            }
            int stand = (row << columnCount) + taken;
            if (stand >= 0 && stand < MOST_STANDS) {
                worth[stand] = most;
            }
        }

        private void choose() {
            together = 0;
            pairs = 0;
            int taken = 0;
            for (int row = 0; row < rowCount && row < MOST_ROWS_PAIRED; row++) {
                int j = firstBest(row, taken);
                Pupil got = columnAt(j);
                gets[row] = got;
                if (got != null) {
                    taken |= 1 << j;
                    together += got.commonWith(rows[row]);
                    pairs++;
                }
            }
        }

        private int firstBest(int row, int taken) {
            int due = worthFrom(row, taken);
            for (int j = NONE; j < columnCount; j++) {
                boolean free = j == NONE || ((taken >> j) & 1) == 0;
                if (free && worthOf(row, j, taken) == due) {
                    return j;
                }
            }
            return NONE;
        }
    }

    private static final class Shelf {
        static final int EMPTY = 0;
        static final int ROW = 1;
        static final int ONE = 2;

        int state;
        int number;
        int sort;
        int size;
        final long[] cells;

        Shelf() {
            state = EMPTY;
            cells = new long[MOST_ELEMENTS];
        }

        void clear() {
            state = EMPTY;
        }

        void putPupil(int newNumber) {
            state = ONE;
            number = newNumber;
        }

        void putRow(int newSort, int newSize) {
            state = ROW;
            sort = newSort;
            size = newSize;
            for (int i = 0; i < MOST_ELEMENTS; i++) {
                cells[i] = 0;
            }
        }

        int noRow() {
            return state == ONE ? OTHER : NOTHING;
        }

        boolean hasPlaces(int from, int n) {
            return from >= 0 && n >= 0 && (long) from + n <= size;
        }

        /** What speaks against reading the first n elements; 0 if nothing does. */
        int unfitFor(int n) {
            if (state != ROW) {
                return noRow();
            }
            return n > size ? BAD : 0;
        }

        boolean isYesNo(int n) {
            for (int i = 0; i < n; i++) {
                if (cellAt(i) != 0 && cellAt(i) != 1) {
                    return false;
                }
            }
            return true;
        }

        long cellAt(int i) {
            return state == ROW && i >= 0 && i < size && i < MOST_ELEMENTS ? cells[i] : 0;
        }

        void putCell(int i, long v) {
            if (i >= 0 && i < size && i < MOST_ELEMENTS) {
                cells[i] = lowestBits(v);
            }
        }

        private long lowestBits(long v) {
            switch (sort) {
                case 0:
                    return (byte) v;
                case 1:
                    return (short) v;
                case 2:
                    return (int) v;
                case 3:
                    return v;
                default:
                    return v != 0 ? 1 : 0;
            }
        }
    }

    /** Bytes, and the list that is read from them. */
    private static final class Tape {
        private static final int END = 0;
        private static final int WORD = 1;
        private static final int NUMBER = 2;
        private static final int SIGN = 3;
        private static final int NO_TOKEN = 4;

        final int[] bytes;
        int size;
        int fault;
        private Schools to;
        private int token;
        private int start;
        private int place;

        Tape() {
            bytes = new int[MOST_BYTES];
            size = 0;
        }

        void put(int letter) {
            if (size >= 0 && size < MOST_BYTES) {
                bytes[size] = letter;
                size++;
            }
        }

        private int byteAt(int i) {
            return i >= 0 && i < size && i < MOST_BYTES ? bytes[i] : NONE;
        }

        /** How many statements came to the schools; NONE if there is a fault. */
        int readInto(Schools schools) {
            to = schools;
            place = 0;
            for (int statements = 1; statements <= MOST_BYTES; statements++) {
                if (!readStatement()) {
                    return NONE;
                }
                nextToken();
                if (token == END) {
                    return statements;
                }
                if (token != SIGN) {
                    faulty();
                    return NONE;
                }
            }
            return NONE;
        }

        private boolean faulty() {
            fault = start;
            return false;
        }

        private boolean readStatement() {
            nextToken();
            if (isWord("pupil")) {
                return readPupil();
            }
            if (isWord("likes")) {
                return readLikes();
            }
            if (isWord("pair")) {
                return readPair();
            }
            if (isWord("part")) {
                return readPart();
            }
            if (isWord("loss")) {
                to.loss = readNumber(WAYS);
                return to.loss != NONE;
            }
            if (isWord("toil")) {
                to.toil = readNumber(MOST_TOIL);
                return to.toil != NONE;
            }
            if (isWord("friday")) {
                to.friday = readNumber(1);
                return to.friday != NONE;
            }
            return faulty();
        }

        private boolean readPupil() {
            if (to.count >= MOST_PUPILS) {
                return faulty();
            }
            int kind = readNumber(KINDS - 1);
            if (kind == NONE) {
                return false;
            }
            int a = readNumber(MOST_A);
            if (a == NONE) {
                return false;
            }
            int school = readNumber(1);
            return school != NONE && to.add(kind, a, school) != NONE;
        }

        private boolean readLikes() {
            Pupil one = readOne();
            if (one == null) {
                return false;
            }
            int bit = readNumber(INTERESTS - 1);
            if (bit == NONE) {
                return false;
            }
            one.likes |= 1 << bit;
            return true;
        }

        private boolean readPair() {
            Pupil one = readOne();
            if (one == null) {
                return false;
            }
            if (!one.isFree(0)) {
                return faulty();
            }
            Pupil other = readOne();
            if (other == null) {
                return false;
            }
            if (!other.isFree(1)) {
                return faulty();
            }
            one.join(other);
            return true;
        }

        private boolean readPart() {
            Pupil one = readOne();
            if (one == null) {
                return false;
            }
            if (one.friend == null) {
                return faulty();
            }
            one.leave();
            return true;
        }

        /** A pupil by his number; null, and the fault is told, if none stands there. */
        private Pupil readOne() {
            return to.at(readNumber(to.count - 1));
        }

        /** A number up to most; NONE, and the fault is told, if none stands there. */
        private int readNumber(int most) {
            nextToken();
            int value = 0;
            for (int i = start; i < place; i++) {
                value = 10 * value + byteAt(i) - '0';
            }
            if (token != NUMBER || place - start > 2 || value > most) {
                faulty();
                return NONE;
            }
            return value;
        }

        private boolean isWord(String word) {
            if (token != WORD || place - start != word.length()) {
                return false;
            }
            for (int i = 0; i < word.length(); i++) {
                if (word.charAt(i) != byteAt(start + i)) {
                    return false;
                }
            }
            return true;
        }

        /** The next token stands from start to before place. */
        private void nextToken() {
            while (byteAt(place) == ' ' && place < size) {
                place++;
            }
            start = place;
            token = sortOf(byteAt(place));
            if (token == WORD || token == NUMBER) {
                while (sortOf(byteAt(place)) == token && place < size) {
                    place++;
                }
            } else if (token == SIGN) {
                place++;
            }
        }

        private static int sortOf(int letter) {
            if (letter == NONE) {
                return END;
            }
            if (letter >= 'a' && letter <= 'z') {
                return WORD;
            }
            if (letter >= '0' && letter <= '9') {
                return NUMBER;
            }
            return letter == ';' ? SIGN : NO_TOKEN;
        }
    }
}
