/**
 * Slips on a wall, people of kinds who want each slip somewhere and move in turn.
 * The words in capitals are those of the document (../shared/DOC.md).
 */
public final class SlipWall {
    // A finding's number is its place in status(); its answer lies that far below the first one.
    private static final int BEYOND = 0;
    private static final int FULL = 1;
    private static final int KIND = 2;
    private static final int NONE = 3;
    private static final int STATE = 4;
    private static final int MISSING = 5;
    private static final int SIZE = 6;
    private static final int FINDINGS = 7;
    private static final int FIRST_FINDING = -1000000001;

    private static final int FLOOR = -1;
    // No slip, nobody, no group: where the document asks for one of these.
    private static final int NO_ONE = -1;
    private static final int LAST_GROUP = 5;
    private static final int LAST_KIND = 5;
    private static final int MOST_SLIPS = 10;
    private static final int MOST_PEOPLE = 6;
    private static final int MOST_MOVES = 99;
    private static final int MOST_MOVED = 999;
    private static final int LAST_MINUTE = 99999;
    private static final int FAR = 200;
    private static final int MOST_RULE = 20;
    private static final int SHEETS = 4;
    private static final int MOST_NUMBERS = 40;
    private static final int MOST_BYTES = 120;

    private final Room here;
    // Every question about later minutes is played out here, so that no call makes a new object.
    private final Room trial;
    private final Room kept;
    private boolean isKept;
    private final Best best;
    private final Tape tape;
    private final WallText text;
    private final Row[] rows;
    private final int[] told;

    public SlipWall() {
        Person[] kinds = {new Person(), new Loud(), new Shy(), new Boss(), new Pen(), new Quiet()};
        here = new Room(kinds);
        trial = new Room(kinds);
        kept = new Room(kinds);
        isKept = false;
        best = new Best();
        tape = new Tape();
        text = new WallText(tape);
        rows = new Row[SHEETS];
        for (int s = 0; s < SHEETS; s++) {
            rows[s] = new Row();
        }
        told = new int[FINDINGS];
    }

    // ---- the wall

    public int moves(int v) {
        if (!within(v, 0, MOST_MOVES)) {
            return finding(BEYOND);
        }
        int was = here.moves;
        here.moves = v;
        return was;
    }

    public int slip(int group) {
        if (!within(group, FLOOR, LAST_GROUP)) {
            return finding(BEYOND);
        }
        if (here.slips >= MOST_SLIPS) {
            return finding(FULL);
        }
        return here.addSlip(group, 0);
    }

    public int slipOf(int slip, int what) {
        if (noSlip(slip)) {
            return finding(BEYOND);
        }
        switch (what) {
            case 0: return here.in[slip];
            case 1: return here.moved[slip];
            case 2: return here.fixed[slip];
            case 3: return here.peopleContentWith(slip);
            case 4: return groupMostWanted(slip);
            default: return finding(BEYOND);
        }
    }

    public int stick(int slip, int what, int v) {
        if (noSlip(slip)) {
            return finding(BEYOND);
        }
        switch (what) {
            case 0: return put(here.in, slip, v, FLOOR, LAST_GROUP);
            case 1: return put(here.moved, slip, v, 0, MOST_MOVED);
            case 2: return put(here.fixed, slip, v, 0, 1);
            default: return finding(BEYOND);
        }
    }

    public int group(int group) {
        if (!within(group, FLOOR, LAST_GROUP)) {
            return finding(BEYOND);
        }
        return here.slipsIn(group);
    }

    public int now(int what) {
        switch (what) {
            case 0: return here.minute;
            case 1: return here.moves;
            case 2: return here.whoseTurn();
            case 3: return here.groupsWithSlips();
            case 4: return here.fixedSlips();
            case 5: return here.movedTogether();
            default: return finding(BEYOND);
        }
    }

    // ---- people

    public int person(int kind) {
        if (!within(kind, 0, LAST_KIND)) {
            return finding(BEYOND);
        }
        if (here.people >= MOST_PEOPLE) {
            return finding(FULL);
        }
        return here.addPerson(kind);
    }

    public int of(int person, int what) {
        if (noPerson(person)) {
            return finding(BEYOND);
        }
        switch (what) {
            case 0: return here.kindOf[person];
            case 1: return here.outside[person];
            case 2: return here.slipsPleasing(person);
            case 3: return here.pickOf(person);
            case 4: return here.turnsOf(person);
            default: return finding(BEYOND);
        }
    }

    public int wants(int person, int slip, int v) {
        if (noPerson(person) || !within(slip, 0, MOST_SLIPS - 1)) {
            return finding(BEYOND);
        }
        return put(here.wanted, Room.wish(person, slip), v, 0, LAST_GROUP);
    }

    public int out(int person, int v) {
        if (noPerson(person)) {
            return finding(BEYOND);
        }
        return put(here.outside, person, v, 0, 1);
    }

    public int turn(int person, int kind) {
        if (noPerson(person)) {
            return finding(BEYOND);
        }
        return put(here.kindOf, person, kind, 0, LAST_KIND);
    }

    public int as(int person, int kind) {
        if (noPerson(person) || !within(kind, 0, LAST_KIND)) {
            return finding(BEYOND);
        }
        if (!here.isOfKind(person, kind)) {
            return finding(KIND);
        }
        return here.wayCount(person);
    }

    public int alike(int person, int other) {
        if (noPerson(person) || noPerson(other) || person == other) {
            return finding(BEYOND);
        }
        return here.sameWishes(person, other);
    }

    // ---- minutes

    public int minutes(int n) {
        if (!within(n, 1, 100)) {
            return finding(BEYOND);
        }
        if (here.minute > LAST_MINUTE - n) {
            return finding(STATE);
        }
        here.passMinutes(n);
        return here.movedTogether();
    }

    public int on(int slip, int n, int what) {
        if (noSlip(slip) || !within(n, 0, FAR) || !within(what, 0, 2)) {
            return finding(BEYOND);
        }
        tryOn(n);
        switch (what) {
            case 0: return trial.in[slip];
            case 1: return trial.moved[slip];
            default: return trial.fixed[slip];
        }
    }

    public int way(int person, int n) {
        if (noPerson(person) || !within(n, 0, FAR)) {
            return finding(BEYOND);
        }
        trial.copyFrom(here);
        return wayOfTrial(person, n);
    }

    public int done() {
        trial.copyFrom(here);
        int idleFrom = 0;
        for (int gone = 0; gone <= FAR + here.people; gone++) {
            if (gone - idleFrom >= here.people) {
                return idleFrom;
            }
            if (trial.passMinute() != 0) {
                idleFrom = gone + 1;
            }
        }
        return finding(NONE);
    }

    public int moved(int slip) {
        if (noSlip(slip)) {
            return finding(BEYOND);
        }
        trial.copyFrom(here);
        for (int n = 1; n <= FAR; n++) {
            // MOVED itself can't tell: it is held to 999.
            if ((trial.passMinute() & (1 << slip)) != 0) {
                return n;
            }
        }
        return finding(NONE);
    }

    // ---- what is best

    public int rule(int person, int n) {
        if (noPerson(person) || !within(n, 1, 100)) {
            return finding(BEYOND);
        }
        best.forget();
        for (int v = 0; v <= MOST_RULE; v++) {
            trial.copyFrom(here);
            trial.moves = v;
            best.offer(v, wayOfTrial(person, n));
        }
        return best.one;
    }

    public int send(int person, int n) {
        if (noPerson(person) || !within(n, 1, 100)) {
            return finding(BEYOND);
        }
        best.forget();
        for (int sent = 0; sent < here.people; sent++) {
            if (sent != person && here.outside[sent] == 0) {
                trial.copyFrom(here);
                trial.outside[sent] = 1;
                best.offer(sent, wayOfTrial(person, n));
            }
        }
        return bestOrNone();
    }

    public int kind(int person, int n) {
        if (noPerson(person) || !within(n, 1, 100)) {
            return finding(BEYOND);
        }
        best.forget();
        for (int k = 0; k <= LAST_KIND; k++) {
            trial.copyFrom(here);
            trial.kindOf[person] = k;
            best.offer(k, wayOfTrial(person, n));
        }
        return best.one;
    }

    public int pair() {
        best.forget();
        for (int a = 0; a < here.people; a++) {
            for (int b = a + 1; b < here.people; b++) {
                best.offer(10 * a + b, here.sameWishes(a, b));
            }
        }
        return bestOrNone();
    }

    public int fix(int n) {
        if (!within(n, 1, 60)) {
            return finding(BEYOND);
        }
        best.forget();
        for (int slip = 0; slip < here.slips; slip++) {
            if (here.fixed[slip] == 0) {
                trial.copyFrom(here);
                trial.fixed[slip] = 1;
                trial.passMinutes(n);
                best.offer(slip, -trial.movedTogether());
            }
        }
        return bestOrNone();
    }

    public int winner(int n) {
        if (!within(n, 0, FAR)) {
            return finding(BEYOND);
        }
        tryOn(n);
        best.forget();
        for (int person = 0; person < trial.people; person++) {
            best.offer(person, trial.wayCount(person));
        }
        return bestOrNone();
    }

    public int largest(int n) {
        if (!within(n, 0, FAR)) {
            return finding(BEYOND);
        }
        tryOn(n);
        best.forget();
        for (int group = 0; group <= LAST_GROUP; group++) {
            best.offer(group, Integer.bitCount(trial.slipsIn(group)));
        }
        return best.one;
    }

    // ---- the text

    public int feed(int bytes, int n) {
        if (!within(n, 1, 4)) {
            return finding(BEYOND);
        }
        if (tape.length > MOST_BYTES - n) {
            return finding(FULL);
        }
        for (int i = n - 1; i >= 0; i--) {
            tape.append((bytes >> (8 * i)) & 255);
        }
        return tape.length;
    }

    public int wipe() {
        int had = tape.length;
        tape.length = 0;
        return had;
    }

    public int wall() {
        // A text may turn out faulty at its end, so its items come to a trial first.
        trial.copyFrom(here);
        int answer = text.tellTo(trial);
        if (answer >= 0) {
            here.copyFrom(trial);
        }
        tape.length = 0;
        return answer;
    }

    // ---- sheets

    public int sheet(int s, int bits, int n) {
        if (noSheet(s) || (bits != 0 && bits != 8 && bits != 16 && bits != 64)) {
            return finding(BEYOND);
        }
        if (n < 0) {
            return finding(SIZE);
        }
        if (n > MOST_NUMBERS) {
            return finding(BEYOND);
        }
        rows[s].become(bits, n);
        return rows[s].size;
    }

    public long write(int s, int i, long v) {
        if (noSheet(s)) {
            return finding(BEYOND);
        }
        if (rows[s].isMissing()) {
            return finding(MISSING);
        }
        if (!within(i, 0, rows[s].size - 1)) {
            return finding(BEYOND);
        }
        long was = rows[s].numbers[i];
        rows[s].put(i, v);
        return was;
    }

    public int copy(int s, int from, int t, int to, int n) {
        if (noSheet(s) || noSheet(t)) {
            return finding(BEYOND);
        }
        if (rows[s].isMissing() || rows[t].isMissing()) {
            return finding(MISSING);
        }
        if (rows[s].bits != rows[t].bits) {
            return finding(KIND);
        }
        if (!rows[s].hasFrom(from, n) || !rows[t].hasFrom(to, n)) {
            return finding(BEYOND);
        }
        System.arraycopy(rows[s].numbers, from, rows[t].numbers, to, n);
        return n;
    }

    public int lays(int s, int person) {
        if (noSheet(s)) {
            return finding(BEYOND);
        }
        if (rows[s].isMissing()) {
            return finding(MISSING);
        }
        if (noPerson(person)) {
            return finding(BEYOND);
        }
        int came = 0;
        for (int i = 0; i < rows[s].size && i < MOST_SLIPS; i++) {
            long group = rows[s].numbers[i];
            if (group >= 0 && group <= LAST_GROUP) {
                here.wanted[Room.wish(person, i)] = (int) group;
                came++;
            }
        }
        return came;
    }

    public int book(int s, int slip) {
        if (noSheet(s)) {
            return finding(BEYOND);
        }
        if (rows[s].isMissing()) {
            return finding(MISSING);
        }
        if (noSlip(slip)) {
            return finding(BEYOND);
        }
        trial.copyFrom(here);
        for (int i = 0; i < rows[s].size; i++) {
            rows[s].put(i, trial.in[slip]);
            trial.passMinute();
        }
        return rows[s].size;
    }

    public int read(int s, int slip, int person) {
        if (noSheet(s)) {
            return finding(BEYOND);
        }
        if (rows[s].isMissing()) {
            return finding(MISSING);
        }
        if (noSlip(slip) || noPerson(person)) {
            return finding(BEYOND);
        }
        int pairs = 0;
        for (int k = 0; k <= LAST_KIND; k++) {
            for (int group = 0; group <= LAST_GROUP; group++) {
                trial.copyFrom(here);
                trial.kindOf[person] = k;
                trial.wanted[Room.wish(person, slip)] = group;
                if (trialGoesAs(rows[s], slip)) {
                    pairs++;
                }
            }
        }
        return pairs;
    }

    // ---- images

    public int image() {
        kept.copyFrom(here);
        isKept = true;
        return 1;
    }

    public int undo() {
        if (!isKept) {
            return finding(NONE);
        }
        here.copyFrom(kept);
        return here.slips;
    }

    public int tear() {
        int had = isKept ? 1 : 0;
        isKept = false;
        return had;
    }

    public int count(int what) {
        switch (what) {
            case 0: return here.slips;
            case 1: return here.people;
            case 2: return tape.length;
            case 3: return Integer.bitCount(here.slipsIn(FLOOR));
            default: return finding(BEYOND);
        }
    }

    public int status(int which) {
        if (!within(which, -1, FINDINGS - 1)) {
            return finding(BEYOND);
        }
        if (which >= 0) {
            return told[which];
        }
        int all = 0;
        for (int i = 0; i < FINDINGS; i++) {
            all += told[i];
        }
        return all;
    }

    // ---- what the calls share

    private static boolean within(int v, int least, int most) {
        return v >= least && v <= most;
    }

    private boolean noSlip(int slip) {
        return !within(slip, 0, here.slips - 1);
    }

    private boolean noPerson(int person) {
        return !within(person, 0, here.people - 1);
    }

    private static boolean noSheet(int s) {
        return !within(s, 0, SHEETS - 1);
    }

    private int finding(int which) {
        told[which]++;
        return FIRST_FINDING - which;
    }

    private int put(int[] place, int i, int v, int least, int most) {
        if (!within(v, least, most)) {
            return finding(BEYOND);
        }
        int was = place[i];
        place[i] = v;
        return was;
    }

    private void tryOn(int n) {
        trial.copyFrom(here);
        trial.passMinutes(n);
    }

    private int wayOfTrial(int person, int n) {
        trial.passMinutes(n);
        return trial.wayCount(person);
    }

    private int bestOrNone() {
        return best.one == NO_ONE ? finding(NONE) : best.one;
    }

    private int groupMostWanted(int slip) {
        if (here.people == 0) {
            return NO_ONE;
        }
        best.forget();
        for (int group = 0; group <= LAST_GROUP; group++) {
            best.offer(group, here.howManyWant(slip, group));
        }
        return best.one;
    }

    private boolean trialGoesAs(Row row, int slip) {
        for (int i = 0; i < row.size; i++) {
            if (row.numbers[i] != trial.in[slip]) {
                return false;
            }
            trial.passMinute();
        }
        return true;
    }

    /** The KIND that all others stand under: each overrides just what the document says of it. */
    private static class Person {
        /** Whether this is that KIND or one under it. */
        boolean isKind(int kind) {
            return kind == 0;
        }

        boolean mayTouch(int moved, int moves, int minute) {
            return moved < moves;
        }

        /** Whether a slip is PICKED rather than a lesser one that it could PICK too. */
        boolean prefers(int moved, int movedOfLesser) {
            return false;
        }

        int turns() {
            return 1;
        }

        boolean fixes(int moved) {
            return false;
        }
    }

    private static class Loud extends Person {
        boolean isKind(int kind) {
            return kind == 1 || super.isKind(kind);
        }

        boolean mayTouch(int moved, int moves, int minute) {
            return super.mayTouch(moved, moves, minute) || moved < 2;
        }

        boolean prefers(int moved, int movedOfLesser) {
            return true;
        }

        int turns() {
            return super.turns() + 1;
        }
    }

    private static class Shy extends Person {
        boolean isKind(int kind) {
            return kind == 2 || super.isKind(kind);
        }

        boolean mayTouch(int moved, int moves, int minute) {
            return super.mayTouch(moved, moves, minute) && moved == 0;
        }
    }

    private static final class Boss extends Person {
        boolean isKind(int kind) {
            return kind == 3 || super.isKind(kind);
        }

        boolean mayTouch(int moved, int moves, int minute) {
            return true;
        }

        boolean prefers(int moved, int movedOfLesser) {
            return moved > movedOfLesser;
        }

        boolean fixes(int moved) {
            return true;
        }
    }

    private static final class Pen extends Loud {
        boolean isKind(int kind) {
            return kind == 4 || super.isKind(kind);
        }

        int turns() {
            return super.turns() + 1;
        }

        boolean fixes(int moved) {
            return moved >= 5;
        }
    }

    private static final class Quiet extends Shy {
        boolean isKind(int kind) {
            return kind == 5 || super.isKind(kind);
        }

        boolean mayTouch(int moved, int moves, int minute) {
            return super.mayTouch(moved, moves, minute) || (minute % 2 == 1 && moved < moves);
        }
    }

    /** All that section 1 of the document tells, but for THE TAPE. */
    private static final class Room {
        private final Person[] kinds;
        private int minute;
        private int moves;
        private int slips;
        private int people;
        private final int[] in;
        private final int[] moved;
        private final int[] fixed;
        private final int[] kindOf;
        private final int[] outside;
        private final int[] wanted;

        Room(Person[] allKinds) {
            kinds = allKinds;
            minute = 0;
            moves = 3;
            slips = 0;
            people = 0;
            in = new int[MOST_SLIPS];
            moved = new int[MOST_SLIPS];
            fixed = new int[MOST_SLIPS];
            kindOf = new int[MOST_PEOPLE];
            outside = new int[MOST_PEOPLE];
            wanted = new int[MOST_PEOPLE * MOST_SLIPS];
        }

        /** Where it stands in the row of all wishes what one WANTS with a slip. */
        static int wish(int person, int slip) {
            return person * MOST_SLIPS + slip;
        }

        void copyFrom(Room other) {
            minute = other.minute;
            moves = other.moves;
            slips = other.slips;
            people = other.people;
            System.arraycopy(other.in, 0, in, 0, MOST_SLIPS);
            System.arraycopy(other.moved, 0, moved, 0, MOST_SLIPS);
            System.arraycopy(other.fixed, 0, fixed, 0, MOST_SLIPS);
            System.arraycopy(other.kindOf, 0, kindOf, 0, MOST_PEOPLE);
            System.arraycopy(other.outside, 0, outside, 0, MOST_PEOPLE);
            System.arraycopy(other.wanted, 0, wanted, 0, MOST_PEOPLE * MOST_SLIPS);
        }

        /** The caller has seen to it that there is room for one more, here and in addPerson. */
        int addSlip(int group, int isFixed) {
            in[slips] = group;
            moved[slips] = 0;
            fixed[slips] = isFixed;
            return slips++;
        }

        int addPerson(int kind) {
            kindOf[people] = kind;
            outside[people] = 0;
            for (int slip = 0; slip < MOST_SLIPS; slip++) {
                wanted[wish(people, slip)] = slip % (LAST_GROUP + 1);
            }
            return people++;
        }

        int whoseTurn() {
            return people > 0 ? minute % people : NO_ONE;
        }

        void passMinutes(int n) {
            for (int i = 0; i < n; i++) {
                passMinute();
            }
        }

        /** One MINUTE goes: the slips that were moved in it, as a set. */
        int passMinute() {
            int person = whoseTurn();
            int touched = 0;
            if (person != NO_ONE && outside[person] == 0) {
                int turns = turnsOf(person);
                for (int i = 0; i < turns; i++) {
                    int slip = pickOf(person);
                    if (slip != NO_ONE) {
                        shift(person, slip);
                        touched |= 1 << slip;
                    }
                }
            }
            minute++;
            return touched;
        }

        private void shift(int person, int slip) {
            in[slip] = wanted[wish(person, slip)];
            moved[slip] = Math.min(moved[slip] + 1, MOST_MOVED);
            fixed[slip] = kinds[kindOf[person]].fixes(moved[slip]) ? 1 : 0;
        }

        int pickOf(int person) {
            Person kind = kinds[kindOf[person]];
            int pick = NO_ONE;
            for (int slip = 0; slip < slips; slip++) {
                if (fixed[slip] == 0 && !pleases(person, slip)
                        && kind.mayTouch(moved[slip], moves, minute)
                        && (pick == NO_ONE || kind.prefers(moved[slip], moved[pick]))) {
                    pick = slip;
                }
            }
            return pick;
        }

        int turnsOf(int person) {
            return kinds[kindOf[person]].turns();
        }

        boolean isOfKind(int person, int kind) {
            return kinds[kindOf[person]].isKind(kind);
        }

        /** Whether one HAS ITS WAY of a slip. */
        private boolean pleases(int person, int slip) {
            return in[slip] == wanted[wish(person, slip)];
        }

        int slipsPleasing(int person) {
            int set = 0;
            for (int slip = 0; slip < slips; slip++) {
                if (pleases(person, slip)) {
                    set |= 1 << slip;
                }
            }
            return set;
        }

        int wayCount(int person) {
            return Integer.bitCount(slipsPleasing(person));
        }

        int peopleContentWith(int slip) {
            int set = 0;
            for (int person = 0; person < people; person++) {
                if (pleases(person, slip)) {
                    set |= 1 << person;
                }
            }
            return set;
        }

        int howManyWant(int slip, int group) {
            int count = 0;
            for (int person = 0; person < people; person++) {
                if (wanted[wish(person, slip)] == group) {
                    count++;
                }
            }
            return count;
        }

        int sameWishes(int person, int other) {
            int count = 0;
            for (int slip = 0; slip < slips; slip++) {
                if (wanted[wish(person, slip)] == wanted[wish(other, slip)]) {
                    count++;
                }
            }
            return count;
        }

        int slipsIn(int group) {
            int set = 0;
            for (int slip = 0; slip < slips; slip++) {
                if (in[slip] == group) {
                    set |= 1 << slip;
                }
            }
            return set;
        }

        int groupsWithSlips() {
            int set = 0;
            for (int slip = 0; slip < slips; slip++) {
                if (in[slip] != FLOOR) {
                    set |= 1 << in[slip];
                }
            }
            return set;
        }

        int fixedSlips() {
            int set = 0;
            for (int slip = 0; slip < slips; slip++) {
                if (fixed[slip] == 1) {
                    set |= 1 << slip;
                }
            }
            return set;
        }

        int movedTogether() {
            int sum = 0;
            for (int slip = 0; slip < slips; slip++) {
                sum += moved[slip];
            }
            return sum;
        }
    }

    /** The one of the highest worth; of several the one that was offered first. */
    private static final class Best {
        private int one;
        private int worth;

        Best() {
            one = NO_ONE;
            worth = 0;
        }

        void forget() {
            one = NO_ONE;
            worth = 0;
        }

        void offer(int another, int itsWorth) {
            if (one == NO_ONE || itsWorth > worth) {
                one = another;
                worth = itsWorth;
            }
        }
    }

    /** THE TAPE, and the TOKEN on it that is being looked at. */
    private static final class Tape {
        private static final int END = 0;
        private static final int WORD = 1;
        private static final int NUMBER = 2;
        private static final int SIGN = 3;
        private static final int NO_TOKEN = 4;

        private static final int OVER_ALL_NUMBERS = 1000;

        private final int[] bytes;
        private int length;
        private int token;
        private int start;
        private int end;
        private int number;

        Tape() {
            bytes = new int[MOST_BYTES];
            length = 0;
            token = END;
            start = 0;
            end = 0;
            number = 0;
        }

        void append(int one) {
            bytes[length] = one;
            length++;
        }

        void firstToken() {
            end = 0;
            nextToken();
        }

        void nextToken() {
            start = end;
            while (start < length && bytes[start] == ' ') {
                start++;
            }
            end = start;
            if (start >= length) {
                token = END;
            } else if (isLetter(bytes[start])) {
                takeWord();
            } else if (isDigit(bytes[start])) {
                takeNumber();
            } else {
                token = bytes[start] == ';' ? SIGN : NO_TOKEN;
                end++;
            }
        }

        private void takeWord() {
            token = WORD;
            while (end < length && isLetter(bytes[end])) {
                end++;
            }
        }

        private void takeNumber() {
            token = NUMBER;
            number = 0;
            while (end < length && isDigit(bytes[end])) {
                // Held there, or the digits of a full tape would wrap around to a small number.
                number = Math.min(10 * number + bytes[end] - '0', OVER_ALL_NUMBERS);
                end++;
            }
        }

        private static boolean isLetter(int one) {
            return within(one, 'a', 'z');
        }

        private static boolean isDigit(int one) {
            return within(one, '0', '9');
        }

        boolean isAtEnd() {
            return token == END;
        }

        boolean isSign() {
            return token == SIGN;
        }

        boolean isNumberUpTo(int most) {
            return token == NUMBER && number <= most;
        }

        boolean isWord(String word) {
            if (token != WORD || end - start != word.length()) {
                return false;
            }
            for (int i = 0; i < word.length(); i++) {
                if (bytes[start + i] != word.charAt(i)) {
                    return false;
                }
            }
            return true;
        }
    }

    /** THE TEXT of a WALL. A part that can't go on stops before the TOKEN that is the FAULT. */
    private static final class WallText {
        private static final int MOST_WISHES = 5;
        private static final int NO_KIND = -1;

        private final Tape tape;

        WallText(Tape source) {
            tape = source;
        }

        /** How many ITEMS came to the room, or -1 less the place of the FAULT. */
        int tellTo(Room room) {
            tape.firstToken();
            for (int items = 1; items <= MOST_BYTES; items++) {
                if (!takeItem(room)) {
                    break;
                }
                if (tape.isAtEnd()) {
                    return items;
                }
                if (!tape.isSign()) {
                    break;
                }
                tape.nextToken();
            }
            return -1 - tape.start;
        }

        private boolean takeItem(Room room) {
            if (tape.isWord("slip")) {
                return takeSlip(room);
            }
            if (tape.isWord("moves")) {
                return takeMoves(room);
            }
            int kind = kindNamed();
            return kind != NO_KIND && takePerson(room, kind);
        }

        private boolean takeSlip(Room room) {
            if (room.slips >= MOST_SLIPS) {
                return false;
            }
            tape.nextToken();
            int group = FLOOR;
            if (tape.isNumberUpTo(LAST_GROUP)) {
                group = tape.number;
            } else if (!tape.isWord("floor")) {
                return false;
            }
            tape.nextToken();
            int isFixed = 0;
            if (tape.isWord("fixed")) {
                isFixed = 1;
                tape.nextToken();
            }
            room.addSlip(group, isFixed);
            return true;
        }

        private boolean takeMoves(Room room) {
            tape.nextToken();
            if (!tape.isNumberUpTo(MOST_MOVES)) {
                return false;
            }
            room.moves = tape.number;
            tape.nextToken();
            return true;
        }

        private boolean takePerson(Room room, int kind) {
            if (room.people >= MOST_PEOPLE) {
                return false;
            }
            int person = room.addPerson(kind);
            tape.nextToken();
            if (!tape.isWord("wants")) {
                return true;
            }
            tape.nextToken();
            int wishes = 0;
            while (wishes < MOST_WISHES && tape.isNumberUpTo(LAST_GROUP)) {
                room.wanted[Room.wish(person, wishes)] = tape.number;
                wishes++;
                tape.nextToken();
            }
            return wishes > 0;
        }

        private int kindNamed() {
            if (tape.isWord("person")) {
                return 0;
            }
            if (tape.isWord("loud")) {
                return 1;
            }
            if (tape.isWord("shy")) {
                return 2;
            }
            if (tape.isWord("boss")) {
                return 3;
            }
            if (tape.isWord("pen")) {
                return 4;
            }
            return tape.isWord("quiet") ? 5 : NO_KIND;
        }
    }

    /** One of the SHEETS; of no bits while it is MISSING. */
    private static final class Row {
        private int bits;
        private int size;
        private final long[] numbers;

        Row() {
            bits = 0;
            size = 0;
            numbers = new long[MOST_NUMBERS];
        }

        boolean isMissing() {
            return bits == 0;
        }

        void become(int newBits, int n) {
            bits = newBits;
            size = newBits == 0 ? 0 : n;
            for (int i = 0; i < MOST_NUMBERS; i++) {
                numbers[i] = 0;
            }
        }

        /** Numbers bear a sign in each width, so that THE FLOOR is -1 in all of them. */
        void put(int i, long v) {
            if (bits == 8) {
                numbers[i] = (byte) v;
            } else if (bits == 16) {
                numbers[i] = (short) v;
            } else {
                numbers[i] = v;
            }
        }

        boolean hasFrom(int from, int n) {
            return from >= 0 && n >= 0 && n <= size - from;
        }
    }
}
