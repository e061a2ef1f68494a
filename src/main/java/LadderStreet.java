import java.util.Arrays;

/** A town down a shaft whose ladder is its street; ../shared/DOC.md says what each call answers. */
public final class LadderStreet {
    public static final int NONE = -1;

    private static final int NOT = -2;
    private static final int MOST_BYTES = 2000;
    private static final int FED_BYTES = 20;
    private static final int MOST_RUNGS = 12;
    private static final int MOST_PEOPLE = 5;
    private static final int MOST_WIDTH = 9;
    private static final int MOST_WATER = 99;
    private static final int MOST_MINUTES = 60;
    private static final int MOST_SEEDS = 20;
    private static final int MOST_NEWS = 12;
    private static final int ERRANDS_MINUTES = 200;

    private final byte[] tape = new byte[MOST_BYTES];
    private int taped = 0;
    private int faultPlace = NONE;
    private final Reader reader = new Reader();
    private final Town town = new Town();
    private final Moment now = new Moment();
    private final Moment later = new Moment();
    private final Shelf shelf = new Shelf();
    private final Course course = new Course(town);
    private final Ways ways = new Ways(town, course);
    private final Looks looks = new Looks(town, course);
    private final Homes living = new Homes(town, course);
    private final Rumours rumours = new Rumours(town);
    private final int[] taken = new int[MOST_PEOPLE];

    public LadderStreet() {
        now.begin(town);
    }

    // The tape and the text.

    public int feed(int a, int b, int c, int d, int e) {
        if (taped > MOST_BYTES - FED_BYTES) {
            return NONE;
        }
        putFour(a);
        putFour(b);
        putFour(c);
        putFour(d);
        putFour(e);
        return taped;
    }

    private void putFour(int four) {
        for (int shift = 24; shift >= 0; shift -= 8) {
            if (taped >= 0 && taped < tape.length) {
                tape[taped] = (byte) (four >>> shift);
                taped++;
            }
        }
    }

    public int back(int n) {
        if (n < 0 || n > taped) {
            return NONE;
        }
        taped -= n;
        return taped;
    }

    public int read() {
        reader.begin(tape, taped);
        for (int i = 0; i <= Tokens.MOST && reader.goesOn(); i++) {
            reader.readTell();
        }
        int fault = reader.end();
        taped = 0;
        faultPlace = reader.placeOfFault();
        if (fault == 0) {
            town.become(reader.draft);
            now.begin(town);
            shelf.clear();
            rumours.clear();
        }
        return fault;
    }

    public int place() {
        return faultPlace;
    }

    // What is.

    public int person(int person, int what) {
        if (!town.hasPerson(person)) {
            return NONE;
        }
        switch (what) {
            case 0: return now.of(Moment.AT, person);
            case 1: return town.widthOf(person);
            case 2: return town.temperOf(person);
            case 3: return town.thirstOf(person);
            case 4: return now.of(Moment.GOAL, person);
            case 5: return now.of(Moment.WAITED, person);
            case 6: return now.of(Moment.TOOK, person);
            case 7: return now.of(Moment.FELL, person);
            default: return NONE;
        }
    }

    public int rung(int rung, int what) {
        if (!town.hasRung(rung)) {
            return NONE;
        }
        switch (what) {
            case 0: return course.roomOf(now, rung);
            case 1: return course.widthsOn(now, rung);
            case 2: return looks.peopleOn(now, rung);
            case 3: return now.isWhole(rung) ? 1 : 0;
            case 4: return now.isWhole(rung) ? course.breaksOf(now, rung) : 0;
            case 5: return now.of(Moment.BROKE, rung);
            default: return NONE;
        }
    }

    public int can(int person, int rung) {
        if (!areThere(person, rung) || Math.abs(now.of(Moment.AT, person) - rung) != 1) {
            return NONE;
        }
        return course.fits(now, rung, town.widthOf(person)) ? 1 : 0;
    }

    public int count(int what) {
        switch (what) {
            case 0: return town.rungs;
            case 1: return town.people;
            case 2: return now.minute();
            case 3: return now.quarrels();
            case 4: return now.broken();
            case 5: return looks.peopleWithGoal(now);
            case 6: return now.sumOf(Moment.TOOK);
            case 7: return now.sumOf(Moment.FELL);
            case 8: return taped;
            case 9: return shelf.undoable();
            case 10: return rumours.howMany();
            case 11: return shelf.filledSlots();
            case 12: return town.sumOfWidths();
            case 13: return looks.overfull(now);
            case 14: return now.sumOf(Moment.WAITED);
            case 15: return looks.empty(now);
            case 16: return town.sumOfThirst();
            default: return NONE;
        }
    }

    private boolean areThere(int person, int rung) {
        return town.hasPerson(person) && town.hasRung(rung);
    }

    private boolean areTwo(int person, int other) {
        return town.hasPerson(person) && town.hasPerson(other) && person != other;
    }

    private static boolean isWithin(int number, int least, int most) {
        return number >= least && number <= most;
    }

    // What is done.

    public boolean send(int person, int rung) {
        if (!town.hasPerson(person) || rung != NONE && !town.hasRung(rung)) {
            return false;
        }
        boolean toNone = rung == NONE || rung == now.of(Moment.AT, person);
        int goal = toNone ? NOT : rung;
        if (goal == now.of(Moment.GOAL, person)) {
            return false;
        }
        shelf.remember(now);
        now.put(Moment.GOAL, person, goal);
        if (toNone) {
            now.put(Moment.WAITED, person, 0);
        }
        return true;
    }

    public boolean mend(int rung) {
        if (!town.hasRung(rung) || now.isWhole(rung)) {
            return false;
        }
        shelf.remember(now);
        now.makeWhole(rung);
        return true;
    }

    public int bucket(int w) {
        if (!isWithin(w, 0, MOST_WATER)) {
            return NONE;
        }
        shelf.remember(now);
        return course.letDown(now, w);
    }

    public int minutes(int n) {
        if (!isWithin(n, 0, MOST_MINUTES)) {
            return NONE;
        }
        if (n > 0) {
            shelf.remember(now);
        }
        for (int i = 0; i < n; i++) {
            course.oneMinute(now, town.seed, true);
        }
        return now.minute();
    }

    public boolean undo() {
        return shelf.bringBack(now);
    }

    public boolean hold(int slot) {
        return shelf.holdIn(slot, now);
    }

    public boolean restore(int slot) {
        return shelf.goOnFrom(slot, now);
    }

    // What would be: ways.

    public int inTheWay(int person, int rung) {
        return areThere(person, rung) ? looks.blockedTo(now, person, rung) : NONE;
    }

    public int past(int person, int rung, int other, int otherRung) {
        if (!areTwo(person, other) || !town.hasRung(rung) || !town.hasRung(otherRung)) {
            return NONE;
        }
        return ways.fewestForTwo(now, person, rung, other, otherRung);
    }

    public int alone(int person, int rung) {
        return areThere(person, rung) ? ways.fewestForOne(now, person, rung) : NONE;
    }

    public int reach(int person) {
        return town.hasPerson(person) ? ways.allForOne(now, person) : NONE;
    }

    public int meet(int person, int other, int what) {
        if (!areTwo(person, other) || !isWithin(what, 0, 1)) {
            return NONE;
        }
        int rung = looks.meetingRung(now, person, other);
        return rung == NOT || what == 0 ? rung : looks.farther(now, person, other, rung);
    }

    // What would be: as all stands now.

    public int above(int person) {
        return town.hasPerson(person) ? looks.peopleAbove(now, person) : NONE;
    }

    public int driest(int what) {
        if (!isWithin(what, 0, 1)) {
            return NONE;
        }
        if (town.people == 0) {
            return NOT;
        }
        int who = looks.whoTookLeast(now);
        return what == 0 ? who : now.of(Moment.TOOK, who);
    }

    public int parts(int width, int rung) {
        if (!isWithin(width, 1, MOST_WIDTH) || !town.hasRung(rung)) {
            return NONE;
        }
        return looks.partedPairs(now, width, rung);
    }

    public int least(int width, int what) {
        if (!isWithin(width, 1, MOST_WIDTH) || !isWithin(what, 0, 1)) {
            return NONE;
        }
        int rung = looks.leastParting(now, width);
        return rung == NOT || what == 0 ? rung : looks.partedPairs(now, width, rung);
    }

    public int homes(int d, int person) {
        if (!isWithin(d, 0, MOST_RUNGS - 1) || person != NONE && !town.hasPerson(person)) {
            return NONE;
        }
        boolean all = living.areFound(now, d);
        if (person == NONE) {
            return all ? 1 : 0;
        }
        return all ? living.homeOf(person) : NOT;
    }

    public int news(int person, int n) {
        if (!town.hasPerson(person) || !isWithin(n, 0, MOST_NEWS)) {
            return NONE;
        }
        return looks.whoKnows(now, person, n);
    }

    public int pairs(int d) {
        return isWithin(d, 0, MOST_RUNGS - 1) ? looks.pairsWithin(now, d) : NONE;
    }

    public int kept(int person) {
        return town.hasPerson(person) ? looks.keptBy(now, person) : NONE;
    }

    public int free(int width) {
        return isWithin(width, 1, MOST_WIDTH) ? looks.rungsFor(now, width) : NONE;
    }

    // What would be: buckets.

    public int share(int person, int w) {
        if (!town.hasPerson(person) || !isWithin(w, 0, MOST_WATER)) {
            return NONE;
        }
        letDownLater(w);
        return later.of(Moment.TOOK, person) - now.of(Moment.TOOK, person);
    }

    public int enough() {
        letDownLater(MOST_WATER);
        later.copyTook(taken);
        for (int w = 0; w < MOST_WATER; w++) {
            letDownLater(w);
            if (later.tookAsIn(taken)) {
                return w;
            }
        }
        return MOST_WATER;
    }

    private void letDownLater(int w) {
        later.become(now);
        course.letDown(later, w);
    }

    // What would be: minutes ahead.

    public int errands() {
        later.become(now);
        return course.errandsWithin(ERRANDS_MINUTES, later, town.seed, false);
    }

    public int mendFirst() {
        later.become(now);
        int first = NOT;
        int soonest = course.errandsWithin(ERRANDS_MINUTES, later, town.seed, false);
        for (int rung = 0; rung < town.rungs; rung++) {
            if (!now.isWhole(rung)) {
                later.become(now);
                later.makeWhole(rung);
                int over = course.errandsWithin(ERRANDS_MINUTES, later, town.seed, false);
                if (over != NOT && (soonest == NOT || over < soonest)) {
                    soonest = over;
                    first = rung;
                }
            }
        }
        return first;
    }

    public int waits(int n, int what) {
        if (!isWithin(n, 0, MOST_MINUTES) || !isWithin(what, 0, 1)) {
            return NONE;
        }
        if (town.people == 0) {
            return NOT;
        }
        lookAhead(n);
        int who = looks.whoWaitedLongest(later);
        return what == 0 ? who : later.of(Moment.WAITED, who);
    }

    public int crowd(int n, int what) {
        if (!isWithin(n, 0, MOST_MINUTES) || !isWithin(what, 0, 1)) {
            return NONE;
        }
        lookAhead(n);
        int rung = looks.fullestRung(later);
        return what == 0 ? rung : course.widthsOn(later, rung);
    }

    public int then(int person, int n, int what) {
        if (!isWithin(n, 0, MOST_MINUTES) || !isWithin(what, 0, 3)) {
            return NONE;
        }
        if (what <= 1 && !town.hasPerson(person)) {
            return NONE;
        }
        lookAhead(n);
        switch (what) {
            case 0: return later.of(Moment.AT, person);
            case 1: return later.of(Moment.WAITED, person);
            case 2: return later.quarrels() - now.quarrels();
            default: return Integer.bitCount(later.broken());
        }
    }

    public int year(int n, int s) {
        if (!isWithin(n, 0, MOST_MINUTES) || !isWithin(s, 1, MOST_SEEDS)) {
            return NONE;
        }
        int over = 0;
        for (int i = 0; i < s; i++) {
            later.become(now);
            if (course.errandsWithin(n, later, town.seed + i, true) != NOT) {
                over++;
            }
        }
        return over;
    }

    private void lookAhead(int n) {
        later.become(now);
        for (int i = 0; i < n; i++) {
            course.oneMinute(later, town.seed, true);
        }
    }

    // What is told.

    public int tell(int rung, boolean above) {
        return town.hasRung(rung) ? rumours.add(rung, above) : NONE;
    }

    public int forget() {
        return rumours.clear();
    }

    public int trod(int k, int what) {
        if (!isWithin(k, 0, rumours.howMany()) || !isWithin(what, 0, 1)) {
            return NONE;
        }
        int who = rumours.whoFits(now, k);
        return what == 0 ? Integer.bitCount(who) : who;
    }

    public int ask(int k) {
        return isWithin(k, 0, rumours.howMany()) ? rumours.bestRung(now, k) : NONE;
    }

    // What all classes below use.

    private static int at(int[] row, int i) {
        return i >= 0 && i < row.length ? row[i] : 0;
    }

    private static boolean hasBit(int bits, int i) {
        return i >= 0 && i < 32 && (bits >>> i & 1) != 0;
    }

    /** LOT: a number below n that SEED and which always make alike. */
    private static int lot(int n, int seed, int which) {
        int mixed = stirred(stirred(seed, 131), which);
        return n > 0 ? (mixed >>> 1) % n : 0;
    }

    private static int stirred(int h, int it) {
        int mixed = (h ^ it) * 1103515245 + 12345;
        return mixed ^ mixed >>> 15;
    }

    /** The four LAWS as rows of steps, and the reckoning of them. */
    private static final class Laws {
        static final int ROOM = 0;
        static final int QUARREL = 1;
        static final int CUP = 2;
        static final int BREAKS = 3;
        static final int HOW_MANY = 4;

        static final int RUNG = 0;
        static final int DEEP = 1;
        static final int MINUTE = 2;
        static final int WIDTH = 3;
        static final int TEMPER = 4;
        static final int THIRST = 5;
        static final int WAITED = 6;
        static final int HERE = 7;
        static final int WATER = 8;
        static final int VARS = 9;

        static final int RETURN = 0;
        static final int NUMBER = 1;
        static final int LOAD = 2;
        static final int UNLESS = 3;

        // A TOKEN makes one step at most; the laws that are not told are written as eight more.
        private static final int MOST_STEPS = Tokens.MOST + 2 * HOW_MANY;
        // Seven levels of E leave two numbers each, the left side of a < one more.
        private static final int MOST_PENDING = 24;

        private final int[] ops = new int[MOST_STEPS];
        private final int[] args = new int[MOST_STEPS];
        private final int[] starts = new int[HOW_MANY];
        private final int[] vars = new int[VARS];
        private final int[] pending = new int[MOST_PENDING];
        private int steps = 0;

        void clear() {
            steps = 0;
            begin(ROOM);
            add(NUMBER, 9);
            add(RETURN, 0);
            begin(CUP);
            add(LOAD, THIRST);
            add(RETURN, 0);
            begin(QUARREL);
            begin(BREAKS);
            add(NUMBER, 0);
            add(RETURN, 0);
        }

        void begin(int law) {
            if (law >= 0 && law < starts.length) {
                starts[law] = steps;
            }
        }

        /** Writes a step behind the others: its number. */
        int add(int op, int arg) {
            if (steps >= 0 && steps < ops.length && steps < args.length) {
                ops[steps] = op;
                args[steps] = arg;
                steps++;
            }
            return steps - 1;
        }

        /** Lets a step that may jump jump behind all that is written so far. */
        void jumpHere(int step) {
            if (step >= 0 && step < args.length) {
                args[step] = steps;
            }
        }

        void become(Laws other) {
            System.arraycopy(other.ops, 0, ops, 0, MOST_STEPS);
            System.arraycopy(other.args, 0, args, 0, MOST_STEPS);
            System.arraycopy(other.starts, 0, starts, 0, HOW_MANY);
            steps = other.steps;
        }

        /** All VARS are 0 but those that are told for all LAWS. */
        void setAll(int deep, int minute) {
            Arrays.fill(vars, 0);
            set(DEEP, deep);
            set(MINUTE, minute);
        }

        void set(int variable, int worth) {
            if (variable >= 0 && variable < vars.length) {
                vars[variable] = worth;
            }
        }

        /** What a LAW tells, for the VARS that are set. */
        int worth(int law) {
            int next = at(starts, law);
            int top = 0;
            for (int turn = 0; turn < MOST_STEPS; turn++) {
                if (next < 0 || next >= ops.length || next >= args.length) {
                    return 0;
                }
                int op = ops[next];
                int arg = args[next];
                next++;
                if (op == RETURN) {
                    return top == 1 ? pending[0] : 0;
                }
                if (op == NUMBER || op == LOAD) {
                    if (top < 0 || top >= pending.length) {
                        return 0;
                    }
                    pending[top] = op == NUMBER ? arg : at(vars, arg);
                    top++;
                    continue;
                }
                if (top < 2 || top > pending.length) {
                    return 0;
                }
                int left = pending[top - 2];
                int right = pending[top - 1];
                if (op == '/' && right == 0) {
                    return 0;
                }
                if (op == UNLESS) {
                    top -= 2;
                    next = left < right ? next : arg;
                } else {
                    top--;
                    pending[top - 1] = reckoned(op, left, right);
                }
            }
            return 0;
        }

        private static int reckoned(int op, int left, int right) {
            switch (op) {
                case '+': return left + right;
                case '-': return left - right;
                case '*': return left * right;
                case '/': return right == 0 ? 0 : left / right;
                default: return 0;
            }
        }
    }

    /** What a text tells: the shaft, the PEOPLE as they are at first, the SEED, the LAWS. */
    private static final class Town {
        int rungs = 8;
        int people = 0;
        int seed = 0;
        final Laws laws = new Laws();
        private final int[] starts = new int[MOST_PEOPLE];
        private final int[] widths = new int[MOST_PEOPLE];
        private final int[] tempers = new int[MOST_PEOPLE];
        private final int[] thirsts = new int[MOST_PEOPLE];

        Town() {
            laws.clear();
        }

        void clear() {
            rungs = 8;
            people = 0;
            seed = 0;
            laws.clear();
        }

        void addPerson(int start, int width, int temper, int thirst) {
            if (people >= 0 && people < MOST_PEOPLE) {
                starts[people] = start;
                widths[people] = width;
                tempers[people] = temper;
                thirsts[people] = thirst;
                people++;
            }
        }

        void become(Town other) {
            rungs = other.rungs;
            people = other.people;
            seed = other.seed;
            laws.become(other.laws);
            System.arraycopy(other.starts, 0, starts, 0, MOST_PEOPLE);
            System.arraycopy(other.widths, 0, widths, 0, MOST_PEOPLE);
            System.arraycopy(other.tempers, 0, tempers, 0, MOST_PEOPLE);
            System.arraycopy(other.thirsts, 0, thirsts, 0, MOST_PEOPLE);
        }

        boolean hasPerson(int person) {
            return person >= 0 && person < people;
        }

        boolean hasRung(int rung) {
            return rung >= 0 && rung < rungs;
        }

        boolean hasAllRungsTold() {
            for (int p = 0; p < people; p++) {
                if (!hasRung(startOf(p))) {
                    return false;
                }
            }
            return true;
        }

        int startOf(int person) {
            return at(starts, person);
        }

        int widthOf(int person) {
            return at(widths, person);
        }

        int temperOf(int person) {
            return at(tempers, person);
        }

        int thirstOf(int person) {
            return at(thirsts, person);
        }

        int sumOfWidths() {
            int sum = 0;
            for (int p = 0; p < people; p++) {
                sum += widthOf(p);
            }
            return sum;
        }

        int sumOfThirst() {
            int sum = 0;
            for (int p = 0; p < people; p++) {
                sum += thirstOf(p);
            }
            return sum;
        }
    }

    /** The TOKENS of a text, in rows. */
    private static final class Tokens {
        static final int MOST = 400;
        static final int LONGEST_NAME = 8;
        static final int LONGEST_INT = 4;

        // A SIGN's kind is the sign itself, a word's is FIRST_WORD and its number in WORDS.
        static final int END = 0;
        static final int NO_TOKEN = 1;
        static final int NAME = 2;
        static final int INT = 3;
        static final int FIRST_WORD = 256;
        static final int SHAFT = 256;
        static final int PERSON = 257;
        static final int ROOM = 258;
        static final int BREAKS = 261;
        static final int SEED = 262;
        static final int IF = 263;
        static final int THEN = 264;
        static final int ELSE = 265;
        static final int FIRST_VAR = 266;
        private static final String WORDS =
            "shaft person room quarrel cup breaks seed if then else rung deep minute width temper thirst waited here water ";
        private static final int HOW_MANY_WORDS = 19;
        private static final String SIGNS = ";=+-*/<()";

        private final long[] words = new long[HOW_MANY_WORDS];
        private final int[] kinds = new int[MOST + 2];
        private final int[] places = new int[MOST + 2];
        private final long[] worths = new long[MOST + 2];
        private int size = 0;

        Tokens() {
            int word = 0;
            for (int i = 0; i < WORDS.length(); i++) {
                char sign = WORDS.charAt(i);
                if (sign == ' ') {
                    word++;
                } else if (word < words.length) {
                    words[word] = withLetter(words[word], sign);
                }
            }
        }

        // Eight letters as one number: two NAMES are the same just if their numbers are.
        private static long withLetter(long packed, int letter) {
            return packed * 27 + (letter - 'a' + 1);
        }

        int kindOf(int token) {
            return token >= 0 && token < size && token < kinds.length ? kinds[token] : END;
        }

        int placeOf(int token) {
            return token >= 0 && token < places.length ? places[token] : 0;
        }

        /** The number that an INT tells, or the one that stands for a NAME. */
        long worthOf(int token) {
            return token >= 0 && token < worths.length ? worths[token] : 0;
        }

        /** Fills the rows, to the 401st TOKEN at most: no text goes on behind it. */
        void split(byte[] text, int length) {
            int end = Math.min(length, text.length);
            int from = 0;
            size = 0;
            for (int turn = 0; turn <= MOST; turn++) {
                from = behindBlanks(text, from, end);
                if (from < 0 || from >= end) {
                    break;
                }
                int first = text[from];
                if (isLetter(first)) {
                    from = splitName(text, from, end);
                } else if (isDigit(first)) {
                    from = splitInt(text, from, end);
                } else {
                    add(isSign(first) ? first : NO_TOKEN, from, 0);
                    from++;
                }
            }
            add(END, end, 0);
        }

        private void add(int kind, int place, long worth) {
            if (size >= 0 && size < kinds.length && size < places.length && size < worths.length) {
                kinds[size] = kind;
                places[size] = place;
                worths[size] = worth;
                size++;
            }
        }

        private static int behindBlanks(byte[] text, int from, int end) {
            int at = from;
            while (at >= 0 && at < end && at < text.length && isBlank(text[at])) {
                at++;
            }
            return at;
        }

        private int splitName(byte[] text, int from, int end) {
            long packed = 0;
            int at = from;
            while (at >= 0 && at < end && at < text.length && isLetter(text[at])) {
                packed = withLetter(packed, text[at]);
                at++;
            }
            add(at - from > LONGEST_NAME ? NO_TOKEN : kindOfName(packed), from, packed);
            return at;
        }

        private int kindOfName(long packed) {
            for (int word = 0; word < words.length; word++) {
                if (words[word] == packed) {
                    return FIRST_WORD + word;
                }
            }
            return NAME;
        }

        private int splitInt(byte[] text, int from, int end) {
            int number = 0;
            int at = from;
            while (at >= 0 && at < end && at < text.length && isDigit(text[at])) {
                number = number * 10 + (text[at] - '0');
                at++;
            }
            add(at - from > LONGEST_INT ? NO_TOKEN : INT, from, number);
            return at;
        }

        private static boolean isBlank(int sign) {
            return sign == 9 || sign == 10 || sign == 13 || sign == 32;
        }

        private static boolean isLetter(int sign) {
            return sign >= 'a' && sign <= 'z';
        }

        private static boolean isDigit(int sign) {
            return sign >= '0' && sign <= '9';
        }

        private static boolean isSign(int sign) {
            for (int i = 0; i < SIGNS.length(); i++) {
                if (SIGNS.charAt(i) == sign) {
                    return true;
                }
            }
            return false;
        }
    }

    /** Reads a text into a draft of a town, and finds its FAULT. */
    private static final class Reader {
        private static final int SYNTAX = 1;
        private static final int ROOM = 2;
        private static final int TWICE = 3;
        private static final int WRONG = 5;
        private static final int SHAFT = 6;
        private static final int MOST_IFS = 4;
        private static final int MOST_OPEN = 6;

        final Town draft = new Town();
        private final Tokens tokens = new Tokens();
        private final long[] names = new long[MOST_PEOPLE];
        // The TOKEN that is looked at; NO_TOKEN as soon as there is a FAULT with which no text goes on.
        private int token = 0;
        private int kind = Tokens.NO_TOKEN;
        private int place = 0;
        private long worth = 0;
        private int fault = 0;
        private int faultPlace = NONE;
        // What is told wrongly counts only if there is no such FAULT.
        private int untrue = 0;
        private int untruePlace = NONE;

        void begin(byte[] text, int length) {
            tokens.split(text, length);
            draft.clear();
            fault = 0;
            faultPlace = NONE;
            untrue = 0;
            untruePlace = NONE;
            token = 0;
            kind = tokens.kindOf(0);
            place = tokens.placeOf(0);
            worth = tokens.worthOf(0);
        }

        boolean goesOn() {
            return fault == 0 && kind != Tokens.END;
        }

        /** The number of the FAULT, once all TELLS are read; 0 without. */
        int end() {
            if (fault == 0 && untrue == 0 && !draft.hasAllRungsTold()) {
                note(SHAFT, place);
            }
            if (fault == 0) {
                fault = untrue;
                faultPlace = untruePlace;
            }
            return fault;
        }

        int placeOfFault() {
            return faultPlace;
        }

        private void fail(int number) {
            if (fault == 0) {
                fault = number;
                faultPlace = place;
                kind = Tokens.NO_TOKEN;
            }
        }

        private void note(int number, int where) {
            if (untrue == 0) {
                untrue = number;
                untruePlace = where;
            }
        }

        /** Goes behind a TOKEN that must be of a kind. */
        private boolean take(int wanted) {
            if (kind != wanted) {
                fail(SYNTAX);
            } else if (token >= Tokens.MOST) {
                fail(ROOM);
            } else {
                token++;
                kind = tokens.kindOf(token);
                place = tokens.placeOf(token);
                worth = tokens.worthOf(token);
            }
            return fault == 0;
        }

        void readTell() {
            if (kind == Tokens.SHAFT) {
                take(Tokens.SHAFT);
                draft.rungs = readInt(1, MOST_RUNGS);
            } else if (kind == Tokens.PERSON) {
                readPerson();
            } else if (kind >= Tokens.ROOM && kind <= Tokens.BREAKS) {
                readLaw(kind - Tokens.ROOM);
            } else if (kind == Tokens.SEED) {
                take(Tokens.SEED);
                draft.seed = readInt(0, 9999);
            } else {
                fail(SYNTAX);
            }
            take(';');
        }

        private int readInt(int least, int most) {
            int number = (int) worth;
            int where = place;
            if (!take(Tokens.INT)) {
                return least;
            }
            if (number < least || number > most) {
                note(WRONG, where);
                return least;
            }
            return number;
        }

        private void readPerson() {
            if (draft.people >= MOST_PEOPLE) {
                fail(ROOM);
            }
            take(Tokens.PERSON);
            readName();
            int start = readInt(0, MOST_RUNGS - 1);
            int width = readInt(1, MOST_WIDTH);
            int temper = readInt(0, 9);
            int thirst = readInt(0, 9);
            draft.addPerson(start, width, temper, thirst);
        }

        private void readName() {
            long name = worth;
            int where = place;
            int person = draft.people;
            if (!take(Tokens.NAME) || person < 0 || person >= names.length) {
                return;
            }
            for (int p = 0; p < person; p++) {
                if (names[p] == name) {
                    note(TWICE, where);
                }
            }
            names[person] = name;
        }

        private void readLaw(int law) {
            take(Tokens.ROOM + law);
            take('=');
            draft.laws.begin(law);
            for (int ifs = 0; ifs <= MOST_IFS && kind == Tokens.IF; ifs++) {
                if (ifs == MOST_IFS) {
                    fail(ROOM);
                }
                take(Tokens.IF);
                readSum(0);
                take('<');
                readSum(0);
                take(Tokens.THEN);
                int jump = draft.laws.add(Laws.UNLESS, 0);
                readSum(0);
                take(Tokens.ELSE);
                draft.laws.add(Laws.RETURN, 0);
                draft.laws.jumpHere(jump);
            }
            readSum(0);
            draft.laws.add(Laws.RETURN, 0);
        }

        private void readSum(int open) {
            readProduct(open);
            for (int i = 0; i < Tokens.MOST && (kind == '+' || kind == '-'); i++) {
                int op = kind;
                take(op);
                readProduct(open);
                draft.laws.add(op, 0);
            }
        }

        private void readProduct(int open) {
            readUnit(open);
            for (int i = 0; i < Tokens.MOST && (kind == '*' || kind == '/'); i++) {
                int op = kind;
                take(op);
                readUnit(open);
                draft.laws.add(op, 0);
            }
        }

        private void readUnit(int open) {
            if (kind == Tokens.INT) {
                draft.laws.add(Laws.NUMBER, (int) worth);
                take(kind);
            } else if (kind >= Tokens.FIRST_VAR) {
                draft.laws.add(Laws.LOAD, kind - Tokens.FIRST_VAR);
                take(kind);
            } else if (kind != '(') {
                fail(SYNTAX);
            } else if (open >= MOST_OPEN) {
                fail(ROOM);
            } else {
                take('(');
                readSum(open + 1);
                take(')');
            }
        }
    }

    /** All that goes on, in one row of numbers, so that it is copied at one go. */
    private static final class Moment {
        static final int AT = 3;
        static final int GOAL = AT + MOST_PEOPLE;
        static final int WAITED = GOAL + MOST_PEOPLE;
        static final int TOOK = WAITED + MOST_PEOPLE;
        static final int FELL = TOOK + MOST_PEOPLE;
        static final int BROKE = FELL + MOST_PEOPLE;
        static final int SIZE = BROKE + MOST_RUNGS;
        private static final int MINUTE = 0;
        private static final int QUARRELS = 1;
        private static final int BROKEN = 2;
        private static final int MOST_QUARRELS = 99999;

        private final int[] cells = new int[SIZE];

        void begin(Town town) {
            Arrays.fill(cells, 0);
            for (int p = 0; p < MOST_PEOPLE; p++) {
                put(AT, p, town.startOf(p));
                put(GOAL, p, NOT);
            }
        }

        void become(Moment other) {
            System.arraycopy(other.cells, 0, cells, 0, SIZE);
        }

        void copyTo(int[] row, int from) {
            if (from >= 0 && from <= row.length - SIZE) {
                System.arraycopy(cells, 0, row, from, SIZE);
            }
        }

        void copyFrom(int[] row, int from) {
            if (from >= 0 && from <= row.length - SIZE) {
                System.arraycopy(row, from, cells, 0, SIZE);
            }
        }

        /** The number of one of AT, GOAL, WAITED, TOOK, FELL for a PERSON, of BROKE for a RUNG. */
        int of(int part, int i) {
            return at(cells, part + i);
        }

        void put(int part, int i, int number) {
            int cell = part + i;
            if (cell >= 0 && cell < cells.length) {
                cells[cell] = number;
            }
        }

        int sumOf(int part) {
            int sum = 0;
            for (int p = 0; p < MOST_PEOPLE; p++) {
                sum += of(part, p);
            }
            return sum;
        }

        int minute() {
            return cells[MINUTE];
        }

        void nextMinute() {
            cells[MINUTE]++;
        }

        int quarrels() {
            return cells[QUARRELS];
        }

        void addQuarrels(int more) {
            cells[QUARRELS] = Math.min(MOST_QUARRELS, cells[QUARRELS] + more);
        }

        int broken() {
            return cells[BROKEN];
        }

        boolean isWhole(int rung) {
            return !hasBit(cells[BROKEN], rung);
        }

        void makeWhole(int rung) {
            cells[BROKEN] &= ~(1 << rung);
        }

        void breakDown(int rung) {
            cells[BROKEN] |= 1 << rung;
            put(BROKE, rung, of(BROKE, rung) + 1);
        }

        void stopGoing(int person) {
            put(GOAL, person, NOT);
            put(WAITED, person, 0);
        }

        void copyTook(int[] row) {
            for (int p = 0; p < row.length; p++) {
                row[p] = of(TOOK, p);
            }
        }

        boolean tookAsIn(int[] row) {
            for (int p = 0; p < row.length; p++) {
                if (row[p] != of(TOOK, p)) {
                    return false;
                }
            }
            return true;
        }
    }

    /** Moments put by: those ahead of the last things done, and those in SLOTS. */
    private static final class Shelf {
        private static final int MOST_UNDONE = 40;
        private static final int SLOTS = 3;

        private final int[] done = new int[MOST_UNDONE * Moment.SIZE];
        private final int[] slots = new int[SLOTS * Moment.SIZE];
        // The rows of done go round: where the next one comes, and how many there are.
        private int next = 0;
        private int undoable = 0;
        private int filled = 0;

        void clear() {
            undoable = 0;
            filled = 0;
        }

        int undoable() {
            return undoable;
        }

        int filledSlots() {
            return Integer.bitCount(filled);
        }

        void remember(Moment moment) {
            moment.copyTo(done, next * Moment.SIZE);
            next = next + 1 < MOST_UNDONE ? next + 1 : 0;
            undoable = Math.min(MOST_UNDONE, undoable + 1);
        }

        boolean bringBack(Moment moment) {
            if (undoable <= 0) {
                return false;
            }
            next = next > 0 ? next - 1 : MOST_UNDONE - 1;
            undoable--;
            moment.copyFrom(done, next * Moment.SIZE);
            return true;
        }

        boolean holdIn(int slot, Moment moment) {
            if (slot < 0 || slot >= SLOTS) {
                return false;
            }
            moment.copyTo(slots, slot * Moment.SIZE);
            filled |= 1 << slot;
            return true;
        }

        boolean goOnFrom(int slot, Moment moment) {
            if (slot < 0 || slot >= SLOTS || !hasBit(filled, slot)) {
                return false;
            }
            moment.copyFrom(slots, slot * Moment.SIZE);
            undoable = 0;
            return true;
        }
    }

    /** How things go on by the LAWS: who fits where, MINUTES, BUCKETS. */
    private static final class Course {
        private static final int MOST_TOLD = 99;
        private static final int OF_HUNDRED = 100;

        private final Town town;
        private final Laws laws;

        Course(Town town) {
            this.town = town;
            this.laws = town.laws;
        }

        int roomOf(Moment moment, int rung) {
            laws.setAll(town.rungs, moment.minute());
            laws.set(Laws.RUNG, rung);
            return Math.max(0, Math.min(MOST_TOLD, laws.worth(Laws.ROOM)));
        }

        int breaksOf(Moment moment, int rung) {
            int here = widthsOn(moment, rung);
            laws.setAll(town.rungs, moment.minute());
            laws.set(Laws.RUNG, rung);
            laws.set(Laws.HERE, here);
            return Math.max(0, Math.min(OF_HUNDRED, laws.worth(Laws.BREAKS)));
        }

        private int quarrelOf(Moment moment, int person, int to) {
            int here = widthsOn(moment, to);
            setPerson(moment, person);
            laws.set(Laws.WAITED, moment.of(Moment.WAITED, person));
            laws.set(Laws.HERE, here);
            return Math.max(0, Math.min(MOST_TOLD, laws.worth(Laws.QUARREL)));
        }

        private int cupOf(Moment moment, int person, int water) {
            setPerson(moment, person);
            laws.set(Laws.WATER, water);
            return Math.max(0, Math.min(water, laws.worth(Laws.CUP)));
        }

        private void setPerson(Moment moment, int person) {
            laws.setAll(town.rungs, moment.minute());
            laws.set(Laws.RUNG, moment.of(Moment.AT, person));
            laws.set(Laws.WIDTH, town.widthOf(person));
            laws.set(Laws.TEMPER, town.temperOf(person));
            laws.set(Laws.THIRST, town.thirstOf(person));
        }

        int widthsOn(Moment moment, int rung) {
            int sum = 0;
            for (int p = 0; p < town.people; p++) {
                if (moment.of(Moment.AT, p) == rung) {
                    sum += town.widthOf(p);
                }
            }
            return sum;
        }

        /** Whether a RUNG is whole and has ROOM for so much more WIDTH. */
        boolean fits(Moment moment, int rung, int width) {
            return town.hasRung(rung) && moment.isWhole(rung)
                && widthsOn(moment, rung) + width <= roomOf(moment, rung);
        }

        void oneMinute(Moment moment, int seed, boolean breaking) {
            for (int p = 0; p < town.people; p++) {
                if (moment.of(Moment.GOAL, p) != NOT) {
                    goOn(moment, p);
                }
            }
            if (breaking) {
                breakAndFall(moment, seed);
            }
            moment.nextMinute();
        }

        private void goOn(Moment moment, int person) {
            int goal = moment.of(Moment.GOAL, person);
            int to = towards(moment, person);
            if (fits(moment, to, town.widthOf(person))) {
                moment.put(Moment.AT, person, to);
                moment.put(Moment.WAITED, person, 0);
            } else {
                moment.addQuarrels(quarrelOf(moment, person, to));
                moment.put(Moment.WAITED, person, moment.of(Moment.WAITED, person) + 1);
            }
            if (moment.of(Moment.AT, person) == goal) {
                moment.stopGoing(person);
            }
        }

        /** The RUNG next to a PERSON's that is nearer to their goal. */
        int towards(Moment moment, int person) {
            int from = moment.of(Moment.AT, person);
            return moment.of(Moment.GOAL, person) > from ? from + 1 : from - 1;
        }

        private void breakAndFall(Moment moment, int seed) {
            int broken = 0;
            for (int rung = 0; rung < town.rungs; rung++) {
                int which = 16 * moment.minute() + rung;
                if (moment.isWhole(rung) && lot(OF_HUNDRED, seed, which) < breaksOf(moment, rung)) {
                    broken |= 1 << rung;
                }
            }
            for (int rung = 0; rung < town.rungs; rung++) {
                if (hasBit(broken, rung)) {
                    moment.breakDown(rung);
                }
            }
            for (int p = 0; p < town.people; p++) {
                if (hasBit(broken, moment.of(Moment.AT, p))) {
                    fall(moment, p);
                }
            }
        }

        private void fall(Moment moment, int person) {
            for (int rung = moment.of(Moment.AT, person) + 1; rung < town.rungs; rung++) {
                if (moment.isWhole(rung)) {
                    moment.put(Moment.AT, person, rung);
                    moment.put(Moment.FELL, person, moment.of(Moment.FELL, person) + 1);
                    break;
                }
            }
            moment.stopGoing(person);
        }

        /** Lets a BUCKET down: what is left in it. */
        int letDown(Moment moment, int w) {
            int water = w;
            for (int rung = 0; rung < town.rungs; rung++) {
                for (int p = 0; p < town.people; p++) {
                    if (moment.of(Moment.AT, p) == rung) {
                        int cup = cupOf(moment, p, water);
                        moment.put(Moment.TOOK, p, moment.of(Moment.TOOK, p) + cup);
                        water -= cup;
                    }
                }
            }
            return water;
        }

        /** In how many MINUTES all have no goal, most at most; the moment goes through these MINUTES. */
        int errandsWithin(int most, Moment moment, int seed, boolean breaking) {
            for (int n = 0; n <= most; n++) {
                if (nobodyGoes(moment)) {
                    return n;
                }
                oneMinute(moment, seed, breaking);
            }
            return NOT;
        }

        private boolean nobodyGoes(Moment moment) {
            for (int p = 0; p < town.people; p++) {
                if (moment.of(Moment.GOAL, p) != NOT) {
                    return false;
                }
            }
            return true;
        }
    }

    /** The ways of one or two PEOPLE while all else stands; no MINUTE happens, so ROOM stays as it is, too. */
    private static final class Ways {
        private static final int MOST_WAY = 40;

        private final Town town;
        private final Course course;
        // How much WIDTH each RUNG can take beside those who stand; below 0: nobody can come.
        private final int[] space = new int[MOST_RUNGS];
        // For each RUNG of the one, the RUNGS (bits) on which the other one can be then.
        private int[] places = new int[MOST_RUNGS];
        private int[] nextPlaces = new int[MOST_RUNGS];

        Ways(Town town, Course course) {
            this.town = town;
            this.course = course;
        }

        /** A ladder has one way to a RUNG, and as ROOM stays as it is, waiting never opens it. */
        int fewestForOne(Moment moment, int person, int rung) {
            boolean reached = hasBit(allForOne(moment, person), rung);
            return reached ? Math.abs(moment.of(Moment.AT, person) - rung) : NOT;
        }

        int allForOne(Moment moment, int person) {
            int from = moment.of(Moment.AT, person);
            int width = town.widthOf(person);
            int reached = 1 << from;
            for (int rung = from - 1; rung >= 0 && course.fits(moment, rung, width); rung--) {
                reached |= 1 << rung;
            }
            for (int rung = from + 1; rung < town.rungs && course.fits(moment, rung, width); rung++) {
                reached |= 1 << rung;
            }
            return reached;
        }

        int fewestForTwo(Moment moment, int person, int rung, int other, int otherRung) {
            int from = moment.of(Moment.AT, person);
            if (from < 0 || from >= places.length) {
                return NOT;
            }
            setSpace(moment, person, other);
            Arrays.fill(places, 0);
            places[from] = 1 << moment.of(Moment.AT, other);
            for (int n = 0; n <= MOST_WAY; n++) {
                if (hasBit(at(places, rung), otherRung)) {
                    return n;
                }
                spreadBoth(town.widthOf(person), town.widthOf(other));
            }
            return NOT;
        }

        private void setSpace(Moment moment, int person, int other) {
            for (int rung = 0; rung < space.length; rung++) {
                space[rung] = NONE;
                if (town.hasRung(rung) && moment.isWhole(rung)) {
                    space[rung] = course.roomOf(moment, rung) - course.widthsOn(moment, rung)
                        + ownWidth(moment, person, rung) + ownWidth(moment, other, rung);
                }
            }
        }

        private int ownWidth(Moment moment, int person, int rung) {
            return moment.of(Moment.AT, person) == rung ? town.widthOf(person) : 0;
        }

        private boolean takes(int rung, int width) {
            return rung >= 0 && rung < space.length && width <= space[rung];
        }

        private void spreadBoth(int width, int otherWidth) {
            Arrays.fill(nextPlaces, 0);
            for (int from = 0; from < places.length; from++) {
                for (int otherFrom = 0; otherFrom < MOST_RUNGS; otherFrom++) {
                    if (hasBit(places[from], otherFrom)) {
                        spreadOne(from, otherFrom, width, otherWidth);
                    }
                }
            }
            int[] old = places;
            places = nextPlaces;
            nextPlaces = old;
        }

        private void spreadOne(int from, int otherFrom, int width, int otherWidth) {
            for (int to = Math.max(0, from - 1); to <= from + 1 && to < nextPlaces.length; to++) {
                if (to == from || takes(to, to == otherFrom ? width + otherWidth : width)) {
                    nextPlaces[to] |= otherPlaces(otherFrom, to, otherWidth, width);
                }
            }
        }

        private int otherPlaces(int otherFrom, int one, int otherWidth, int width) {
            int bits = 0;
            for (int to = otherFrom - 1; to <= otherFrom + 1; to++) {
                if (to == otherFrom || takes(to, to == one ? otherWidth + width : otherWidth)) {
                    bits |= 1 << to;
                }
            }
            return bits;
        }
    }

    /** What can be seen in one moment. */
    private static final class Looks {
        private static final int EARSHOT = 2;

        private final Town town;
        private final Course course;

        Looks(Town town, Course course) {
            this.town = town;
            this.course = course;
        }

        int peopleOn(Moment moment, int rung) {
            int bits = 0;
            for (int p = 0; p < town.people; p++) {
                if (moment.of(Moment.AT, p) == rung) {
                    bits |= 1 << p;
                }
            }
            return bits;
        }

        int peopleAbove(Moment moment, int person) {
            int bits = 0;
            for (int p = 0; p < town.people; p++) {
                if (moment.of(Moment.AT, p) < moment.of(Moment.AT, person)) {
                    bits |= 1 << p;
                }
            }
            return bits;
        }

        int peopleWithGoal(Moment moment) {
            int bits = 0;
            for (int p = 0; p < town.people; p++) {
                if (moment.of(Moment.GOAL, p) != NOT) {
                    bits |= 1 << p;
                }
            }
            return bits;
        }

        int overfull(Moment moment) {
            int bits = 0;
            for (int rung = 0; rung < town.rungs; rung++) {
                if (course.widthsOn(moment, rung) > course.roomOf(moment, rung)) {
                    bits |= 1 << rung;
                }
            }
            return bits;
        }

        int empty(Moment moment) {
            int bits = 0;
            for (int rung = 0; rung < town.rungs; rung++) {
                if (peopleOn(moment, rung) == 0) {
                    bits |= 1 << rung;
                }
            }
            return bits;
        }

        int rungsFor(Moment moment, int width) {
            int bits = 0;
            for (int rung = 0; rung < town.rungs; rung++) {
                if (course.fits(moment, rung, width)) {
                    bits |= 1 << rung;
                }
            }
            return bits;
        }

        int fullestRung(Moment moment) {
            int fullest = 0;
            for (int rung = 1; rung < town.rungs; rung++) {
                if (course.widthsOn(moment, rung) > course.widthsOn(moment, fullest)) {
                    fullest = rung;
                }
            }
            return fullest;
        }

        int whoTookLeast(Moment moment) {
            int who = 0;
            for (int p = 1; p < town.people; p++) {
                if (moment.of(Moment.TOOK, p) < moment.of(Moment.TOOK, who)) {
                    who = p;
                }
            }
            return who;
        }

        int whoWaitedLongest(Moment moment) {
            int who = 0;
            for (int p = 1; p < town.people; p++) {
                if (moment.of(Moment.WAITED, p) > moment.of(Moment.WAITED, who)) {
                    who = p;
                }
            }
            return who;
        }

        int blockedTo(Moment moment, int person, int rung) {
            int from = moment.of(Moment.AT, person);
            int bits = 0;
            for (int r = Math.min(from, rung); r <= Math.max(from, rung); r++) {
                if (r != from && !course.fits(moment, r, town.widthOf(person))) {
                    bits |= 1 << r;
                }
            }
            return bits;
        }

        int partedPairs(Moment moment, int width, int rung) {
            int pairs = 0;
            for (int p = 0; p < town.people; p++) {
                for (int q = 0; q < town.people; q++) {
                    boolean apart = moment.of(Moment.AT, p) < rung && moment.of(Moment.AT, q) > rung;
                    int wider = Math.max(town.widthOf(p), town.widthOf(q));
                    if (apart && !course.fits(moment, rung, width + wider)) {
                        pairs++;
                    }
                }
            }
            return pairs;
        }

        int leastParting(Moment moment, int width) {
            int best = NOT;
            int fewest = 0;
            for (int rung = 0; rung < town.rungs; rung++) {
                if (course.fits(moment, rung, width)) {
                    int pairs = partedPairs(moment, width, rung);
                    if (best == NOT || pairs < fewest) {
                        best = rung;
                        fewest = pairs;
                    }
                }
            }
            return best;
        }

        /** MEET asks for ROOM alone: the document doesn't ask that the RUNG be whole. */
        int meetingRung(Moment moment, int person, int other) {
            int best = NOT;
            for (int rung = 0; rung < town.rungs; rung++) {
                if (widthsWith(moment, person, other, rung) <= course.roomOf(moment, rung)
                    && (best == NOT
                        || farther(moment, person, other, rung) < farther(moment, person, other, best))) {
                    best = rung;
                }
            }
            return best;
        }

        private int widthsWith(Moment moment, int person, int other, int rung) {
            int sum = 0;
            for (int p = 0; p < town.people; p++) {
                if (p == person || p == other || moment.of(Moment.AT, p) == rung) {
                    sum += town.widthOf(p);
                }
            }
            return sum;
        }

        /** How many RUNGS the farther one of two has to a RUNG. */
        int farther(Moment moment, int person, int other, int rung) {
            return Math.max(Math.abs(moment.of(Moment.AT, person) - rung),
                Math.abs(moment.of(Moment.AT, other) - rung));
        }

        int keptBy(Moment moment, int person) {
            int bits = 0;
            for (int p = 0; p < town.people; p++) {
                if (p != person && moment.of(Moment.GOAL, p) != NOT) {
                    int to = course.towards(moment, p);
                    int width = town.widthOf(p);
                    boolean stands = moment.of(Moment.AT, person) == to;
                    if (stands && !course.fits(moment, to, width)
                        && course.fits(moment, to, width - town.widthOf(person))) {
                        bits |= 1 << p;
                    }
                }
            }
            return bits;
        }

        int whoKnows(Moment moment, int person, int n) {
            int known = 1 << person;
            for (int i = 0; i < n; i++) {
                known = whoHears(moment, known);
            }
            return known;
        }

        private int whoHears(Moment moment, int known) {
            int bits = known;
            for (int p = 0; p < town.people; p++) {
                for (int q = 0; q < town.people; q++) {
                    if (hasBit(known, p) && areNear(moment, p, q, EARSHOT)) {
                        bits |= 1 << q;
                    }
                }
            }
            return bits;
        }

        private static boolean areNear(Moment moment, int p, int q, int d) {
            return Math.abs(moment.of(Moment.AT, p) - moment.of(Moment.AT, q)) <= d;
        }

        int pairsWithin(Moment moment, int d) {
            return mostPairs(town, moment, d, 0, 0);
        }

        /** The most pairs among the PEOPLE from first on who are not in a pair yet. */
        private static int mostPairs(Town town, Moment moment, int d, int first, int paired) {
            if (first >= town.people || first >= MOST_PEOPLE) {
                return 0;
            }
            int most = mostPairs(town, moment, d, first + 1, paired);
            if (hasBit(paired, first)) {
                return most;
            }
            for (int p = first + 1; p < town.people; p++) {
                if (!hasBit(paired, p) && areNear(moment, first, p, d)) {
                    most = Math.max(most, 1 + mostPairs(town, moment, d, first + 1, paired | 1 << p));
                }
            }
            return most;
        }
    }

    /** Who lives where so that all have ROOM. */
    private static final class Homes {
        private final Town town;
        private final Course course;
        // How much WIDTH more each RUNG takes; below 0: it is broken.
        private final int[] space = new int[MOST_RUNGS];
        private final int[] chosen = new int[MOST_PEOPLE];

        Homes(Town town, Course course) {
            this.town = town;
            this.course = course;
        }

        boolean areFound(Moment moment, int d) {
            for (int rung = 0; rung < space.length; rung++) {
                boolean whole = town.hasRung(rung) && moment.isWhole(rung);
                space[rung] = whole ? course.roomOf(moment, rung) : NONE;
            }
            return settle(this, moment, d, 0);
        }

        int homeOf(int person) {
            return at(chosen, person);
        }

        private static boolean settle(Homes homes, Moment moment, int d, int person) {
            if (person < 0 || person >= homes.town.people || person >= homes.chosen.length) {
                return true;
            }
            int from = moment.of(Moment.AT, person);
            int width = homes.town.widthOf(person);
            for (int rung = 0; rung < homes.space.length; rung++) {
                if (Math.abs(rung - from) <= d && width <= homes.space[rung]) {
                    homes.chosen[person] = rung;
                    homes.space[rung] -= width;
                    if (settle(homes, moment, d, person + 1)) {
                        return true;
                    }
                    homes.space[rung] += width;
                }
            }
            return false;
        }
    }

    /** What was TOLD, and who it can have been. */
    private static final class Rumours {
        private static final int MOST_TOLD = 20;

        private final Town town;
        private final int[] rungs = new int[MOST_TOLD];
        private final boolean[] fromAbove = new boolean[MOST_TOLD];
        private int size = 0;

        Rumours(Town town) {
            this.town = town;
        }

        int howMany() {
            return size;
        }

        int add(int rung, boolean above) {
            if (size < 0 || size >= rungs.length || size >= fromAbove.length) {
                return NONE;
            }
            rungs[size] = rung;
            fromAbove[size] = above;
            size++;
            return size - 1;
        }

        int clear() {
            int had = size;
            size = 0;
            return had;
        }

        /** PEOPLE (bits) of whom the first k are so. */
        int whoFits(Moment moment, int k) {
            int bits = 0;
            for (int p = 0; p < town.people; p++) {
                if (doesFit(moment, p, k)) {
                    bits |= 1 << p;
                }
            }
            return bits;
        }

        private boolean doesFit(Moment moment, int person, int k) {
            boolean down = moment.of(Moment.GOAL, person) > moment.of(Moment.AT, person);
            for (int i = 0; i < k && i < rungs.length && i < fromAbove.length; i++) {
                if (fromAbove[i] != down || !treads(moment, person, rungs[i])) {
                    return false;
                }
            }
            return true;
        }

        private boolean treads(Moment moment, int person, int rung) {
            int from = moment.of(Moment.AT, person);
            int goal = moment.of(Moment.GOAL, person);
            if (goal == NOT) {
                return false;
            }
            return goal > from ? rung > from && rung <= goal : rung < from && rung >= goal;
        }

        int bestRung(Moment moment, int k) {
            int left = whoFits(moment, k);
            if (left == 0) {
                return NOT;
            }
            int best = 0;
            int fewest = MOST_PEOPLE + 1;
            for (int rung = 0; rung < town.rungs; rung++) {
                int passed = Integer.bitCount(left & whoTreads(moment, rung));
                int worst = Math.max(passed, Integer.bitCount(left) - passed);
                if (worst < fewest) {
                    fewest = worst;
                    best = rung;
                }
            }
            return best;
        }

        private int whoTreads(Moment moment, int rung) {
            int bits = 0;
            for (int p = 0; p < town.people; p++) {
                if (treads(moment, p, rung)) {
                    bits |= 1 << p;
                }
            }
            return bits;
        }
    }
}
