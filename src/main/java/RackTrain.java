import java.util.NoSuchElementException;

/**
 * A compartment with racks: who gets in and out, where the luggage lies, what has to be lifted,
 * what falls and what is stolen, and what may be asked about such a journey.
 *
 * All rows are made with the object and used again: no call makes a new one.
 */
public final class RackTrain {
    public static final int NONE = -1;

    private static final int NOT_SO_MANY = -2;
    private static final int IMPOSSIBLE = -3;
    private static final int TOO_MANY = -4;

    private static final int MAX_PLACES = 5;
    private static final int MAX_PERSONS = 6;
    private static final int MAX_PIECES = 10;
    private static final int MAX_WAITS = 10;
    private static final int MAX_SEEN = 24;
    private static final int MAX_UNDO = 20;
    private static final int MAX_TAPE = 700;
    private static final int MAX_KNOTS = 64;
    private static final int MAX_OPEN = 8;
    private static final int MAX_LEAST = 4;

    private static final int LAST_STOP = 20;
    private static final int OVER = 21;
    private static final int USUAL_WAIT = 60;
    private static final int MAX_STRENGTH = 99;
    private static final int NO_LIMIT = 1000000;
    private static final int LOST = 999;

    private static final int NET = 0;
    private static final int SHELF = 1;
    private static final int FLOOR = 2;
    private static final int HALL = 4;

    private static final int BY_FIRST = 0;
    private static final int BY_LIGHT = 1;
    private static final int RULES = 3;

    private static final int LIFT = 0;
    private static final int FALL = 1;
    private static final int STEAL = 2;
    private static final int LAWS = 3;

    /** States of a PERSON. */
    private static final int AWAITED = 0;
    private static final int ABOARD = 1;
    private static final int GONE = 2;

    /** States of a PIECE. */
    private static final int TO_COME = 0;
    private static final int PLACED = 1;
    private static final int TAKEN_OUT = 2;
    private static final int FALLEN = 3;
    private static final int STOLEN = 4;
    private static final int LEFT = 5;

    private static final int FAULT_TOKEN = 1;
    private static final int FAULT_TOO_MUCH = 2;
    private static final int FAULT_AGAIN = 3;
    private static final int FAULT_UNTOLD = 4;

    /** The words of the language, in the order of the token kinds below. */
    private static final String WORDS = "place person piece wait rule curve seed law net shelf floor seat hall first light last lift fall steal or and not heavy frail above kind able stop bears ";
    private static final int WORD_COUNT = 29;

    /** Kinds of tokens: the words of the language first, each by its number in WORDS. */
    private static final int T_PLACE = 0;
    private static final int T_PERSON = 1;
    private static final int T_PIECE = 2;
    private static final int T_WAIT = 3;
    private static final int T_RULE = 4;
    private static final int T_CURVE = 5;
    private static final int T_SEED = 6;
    private static final int T_LAW = 7;
    private static final int T_NET = 8;
    private static final int T_HALL = 12;
    private static final int T_FIRST = 13;
    private static final int T_LAST = 15;
    private static final int T_LIFT = 16;
    private static final int T_OR = 19;
    private static final int T_AND = 20;
    private static final int T_NOT = 21;
    private static final int T_HEAVY = 22;
    private static final int T_BEARS = 28;
    private static final int T_LESS = 29;
    private static final int T_AT_MOST = 30;
    private static final int T_EQUAL = 31;
    private static final int T_UNEQUAL = 32;
    private static final int T_AT_LEAST = 33;
    private static final int T_MORE = 34;
    private static final int T_PLUS = 35;
    private static final int T_MINUS = 36;
    private static final int T_TIMES = 37;
    private static final int T_BY = 38;
    private static final int T_OPEN = 39;
    private static final int T_CLOSE = 40;
    private static final int T_SEMICOLON = 41;
    private static final int T_NUMBER = 42;
    private static final int T_NAME = 43;
    private static final int T_BAD = 44;
    private static final int T_END = 45;

    /** How tightly each token kind up to T_OPEN binds in a formula; an open bracket isn't closed by any sign. */
    private static final int[] BINDS = {
        0, 0, 0, 0, 0, 0, 0, 0, 0, 0, 0, 0, 0, 0, 0, 0, 0, 0, 0,
        1, 2, 3,
        0, 0, 0, 0, 0, 0, 0,
        4, 4, 4, 4, 4, 4, 5, 5, 6, 6,
        0
    };
    private static final int BINDS_LEAST = 1;
    private static final int BINDS_COMPARISON = 4;

    /** What a knot of a law is: below this a number, from here on a token kind. */
    private static final int FIRST_SIGN = 10000;
    private static final long MAX_VALUE = 1000000000000L;
    private static final long ERROR = Long.MIN_VALUE;

    private final Reader reader;
    private Plan plan;
    private final Train now;
    private final Train image;
    private boolean imageKept;
    private final Train trial;
    private final Train spare;
    private final Changes changes;
    private final Sights sights;
    private final int[] coming;
    private final int[] oneCosts;
    private final int[] otherCosts;

    public RackTrain() {
        reader = new Reader();
        plan = new Plan();
        now = new Train(plan);
        image = new Train(plan);
        imageKept = false;
        trial = new Train(plan);
        spare = new Train(plan);
        changes = new Changes();
        sights = new Sights();
        coming = new int[MAX_PIECES];
        oneCosts = new int[MAX_PLACES * MAX_PLACES];
        otherCosts = new int[MAX_PLACES * MAX_PLACES];
    }

    // ---- the text

    public int feed(int a, int b, int c, int d, int e) {
        Tokens tape = reader.tokens;
        if (tape.length + 20 > MAX_TAPE) {
            return NONE;
        }
        tape.append(a);
        tape.append(b);
        tape.append(c);
        tape.append(d);
        tape.append(e);
        return tape.length;
    }

    public int text(int n) {
        if (n < 0 || n > reader.tokens.length) {
            return NOT_SO_MANY;
        }
        boolean fine = reader.readText(n);
        reader.tokens.length = 0;
        if (!fine) {
            return NONE;
        }
        Plan old = plan;
        plan = reader.plan;
        reader.plan = old;
        now.begin(plan);
        imageKept = false;
        changes.size = 0;
        sights.forget();
        return reader.lines;
    }

    public int fault(int what) {
        if (what == 0) {
            return reader.fault;
        }
        return what == 1 ? reader.faultAt : NONE;
    }

    public int named(int letters) {
        return plan.personNamed(letters);
    }

    // ---- what is now

    public int person(int person, int what) throws IndexOutOfBoundsException, NoSuchElementException {
        if (!isPerson(person)) {
            throw new IndexOutOfBoundsException("no such person");
        }
        switch (what) {
            case 0:
                return plan.getsIn[person];
            case 1:
                return plan.getsOut[person];
            case 2:
                return now.strength[person];
            case 3:
                return now.aboard[person];
            case 4:
                return now.spent[person];
            default:
                throw new NoSuchElementException("no such what");
        }
    }

    public int piece(int piece, int what) {
        if (!isPiece(piece)) {
            return NONE;
        }
        switch (what) {
            case 0:
                return plan.owner[piece];
            case 1:
                return plan.weight[piece];
            case 2:
                return plan.frail[piece];
            case 3:
                return now.state[piece];
            case 4:
                return now.where[piece];
            case 5:
                return now.above(piece);
            default:
                return NONE;
        }
    }

    public int place(int place, int what) {
        if (!isPlace(place)) {
            return NONE;
        }
        switch (what) {
            case 0:
                return plan.kind[place];
            case 1:
                return plan.holds[place];
            case 2:
                return now.load[place];
            case 3:
                return now.height[place];
            case 4:
                return now.top(place);
            default:
                return NONE;
        }
    }

    public int waits(int stop) {
        return stop < 0 || stop > LAST_STOP ? NONE : plan.seconds[stop];
    }

    public long law(int what, int piece) {
        if (what < 0 || what >= LAWS || !isPiece(piece)) {
            return ERROR;
        }
        return now.worked(what, piece, now.strength[plan.owner[piece]]);
    }

    public int count(int what) {
        switch (what) {
            case 0:
                return plan.places;
            case 1:
                return plan.persons;
            case 2:
                return plan.pieces;
            case 3:
                return plan.knots;
            case 4:
                return now.stop;
            case 5:
                return now.lifts;
            case 6:
            case 7:
            case 8:
            case 9:
            case 10:
                return now.piecesThatAre(what - 6 + PLACED);
            case 11:
                return now.personsAboard();
            case 12:
                return plan.rule;
            case 13:
                return sights.size;
            case 14:
                return sights.regarded();
            case 15:
                return changes.size;
            default:
                return NONE;
        }
    }

    private boolean isPlace(int place) {
        return place >= 0 && place < plan.places;
    }

    private boolean isPerson(int person) {
        return person >= 0 && person < plan.persons;
    }

    private boolean isPiece(int piece) {
        return piece >= 0 && piece < plan.pieces;
    }

    // ---- what is done by call

    public boolean move(int piece, int place) {
        if (!isPiece(piece) || !isPlace(place) || now.where[piece] < 0 || now.top(place) == piece) {
            return false;
        }
        if (now.where[piece] != place && !now.hasRoom(place, piece)) {
            return false;
        }
        changes.save(now);
        now.takeAway(piece, PLACED);
        now.putOn(place, piece);
        return true;
    }

    public int turn(int place) {
        if (!isPlace(place)) {
            return NONE;
        }
        spare.copy(now);
        int changed = now.turnOver(place);
        if (changed > 0) {
            changes.save(spare);
        }
        return changed;
    }

    public boolean help(int person, int strength) {
        if (!isPerson(person) || strength < 1 || strength > MAX_STRENGTH || now.strength[person] == strength) {
            return false;
        }
        changes.save(now);
        now.strength[person] = strength;
        return true;
    }

    public int go(int n) {
        if (n < 0 || n > OVER || now.stop + n > OVER) {
            return NONE;
        }
        now.drawn = true;
        for (int i = 0; i < n; i++) {
            now.passStop();
        }
        if (n > 0) {
            changes.size = 0;
        }
        return now.stop;
    }

    public int undo() {
        if (changes.size == 0) {
            return NONE;
        }
        changes.bringBack(now);
        return changes.size;
    }

    public int keep() {
        image.copy(now);
        imageKept = true;
        return now.stop;
    }

    public int back() {
        if (!imageKept) {
            return NONE;
        }
        now.copy(image);
        changes.size = 0;
        return now.stop;
    }

    // ---- the best places

    public int least(int what) {
        if (what < 0 || what > MAX_LEAST || now.stop > LAST_STOP) {
            return NONE;
        }
        int pieces = listComing();
        if (pieces > MAX_LEAST) {
            return TOO_MANY;
        }
        int best = findLeast(pieces);
        if (best < 0) {
            return IMPOSSIBLE;
        }
        if (what == 0) {
            return best / 1024;
        }
        return what > pieces ? NOT_SO_MANY : digit(best % 1024, pieces - what);
    }

    private int listComing() {
        int size = 0;
        for (int piece = 0; piece < plan.pieces; piece++) {
            if (comesNow(piece)) {
                coming[size] = piece;
                size++;
            }
        }
        return size;
    }

    private boolean comesNow(int piece) {
        return isPiece(piece) && now.stop <= LAST_STOP && plan.getsIn[plan.owner[piece]] == now.stop;
    }

    /** The digit at a position from the right of a number written with as many digits as there are places. */
    private int digit(int number, int position) {
        if (plan.places == 0) {
            return NONE;
        }
        int rest = number;
        for (int i = 0; i < position; i++) {
            rest = rest / plan.places;
        }
        return rest % plan.places;
    }

    /** LIFTS times 1024 and the number of the choice of places (the first piece's highest); NONE: no choice will do. */
    private int findLeast(int pieces) {
        int choices = 1;
        for (int i = 0; i < pieces; i++) {
            choices = choices * plan.places;
        }
        startTrial();
        trial.takeDown(plan.seconds[now.stop]);
        spare.copy(trial);
        int best = NONE;
        // Without any lift none can be better.
        for (int choice = 0; choice < choices && (best < 0 || best >= 1024); choice++) {
            trial.copy(spare);
            for (int i = 0; i < pieces; i++) {
                trial.told[coming[i]] = digit(choice, pieces - 1 - i);
            }
            trial.getIn();
            if (!comingLeft(pieces)) {
                trial.wayOn();
                trial.runToEnd();
                int found = (trial.lifts - now.lifts) * 1024 + choice;
                best = best < 0 || found < best ? found : best;
            }
        }
        return best;
    }

    private boolean comingLeft(int pieces) {
        for (int i = 0; i < pieces; i++) {
            if (trial.state[coming[i]] == LEFT) {
                return true;
            }
        }
        return false;
    }

    public int mine(int piece, int what) {
        if (what < 0 || what > 3 || !comesNow(piece)) {
            return NONE;
        }
        int best = findMine(piece, what >= 2);
        if (best < 0) {
            return NOT_SO_MANY;
        }
        return what % 2 == 0 ? best % MAX_PLACES : best / MAX_PLACES;
    }

    /** SECONDS (or LIFTS) times MAX_PLACES and the place; NONE: no place has room. */
    private int findMine(int piece, boolean byLifts) {
        int best = NONE;
        for (int place = 0; place < plan.places; place++) {
            startTrial();
            trial.told[piece] = place;
            trial.takeDown(plan.seconds[now.stop]);
            trial.getIn();
            if (trial.state[piece] == PLACED) {
                trial.wayOn();
                trial.runToEnd();
                int cost = byLifts ? trial.lifts - now.lifts : trial.spent[plan.owner[piece]];
                int found = cost * MAX_PLACES + place;
                best = best < 0 || found < best ? found : best;
            }
        }
        return best;
    }

    public int rests(int one, int other) {
        if (!canChoose(one, other)) {
            return NONE;
        }
        workOutCosts(one, other);
        int size = 0;
        for (int choice = 0; choice < MAX_PLACES * MAX_PLACES; choice++) {
            if (isRest(choice)) {
                size++;
            }
        }
        return size;
    }

    public int rest(int one, int other, int k) {
        if (k < 0 || !canChoose(one, other)) {
            return NONE;
        }
        workOutCosts(one, other);
        int size = 0;
        for (int choice = 0; choice < MAX_PLACES * MAX_PLACES; choice++) {
            if (isRest(choice)) {
                if (size == k) {
                    return choice / MAX_PLACES * 10 + choice % MAX_PLACES;
                }
                size++;
            }
        }
        return NOT_SO_MANY;
    }

    private boolean canChoose(int one, int other) {
        return comesNow(one) && comesNow(other) && plan.owner[one] != plan.owner[other] && plan.places > 0;
    }

    private void workOutCosts(int one, int other) {
        for (int a = 0; a < plan.places; a++) {
            for (int b = 0; b < plan.places; b++) {
                startTrial();
                trial.told[one] = a;
                trial.told[other] = b;
                trial.runToEnd();
                oneCosts[a * MAX_PLACES + b] = costOf(one);
                otherCosts[a * MAX_PLACES + b] = costOf(other);
            }
        }
    }

    private int costOf(int piece) {
        return trial.spent[plan.owner[piece]] + (trial.state[piece] == LEFT ? LOST : 0);
    }

    private boolean isRest(int choice) {
        int a = choice / MAX_PLACES;
        int b = choice % MAX_PLACES;
        if (a >= plan.places || b >= plan.places) {
            return false;
        }
        for (int place = 0; place < plan.places; place++) {
            if (oneCosts[place * MAX_PLACES + b] < oneCosts[choice]
                    || otherCosts[a * MAX_PLACES + place] < otherCosts[choice]) {
                return false;
            }
        }
        return true;
    }

    // ---- what comes, as it goes

    private void startTrial() {
        trial.copy(now);
        trial.drawn = false;
        trial.falling = true;
        trial.stealing = true;
    }

    private int liftsOfTrial() {
        trial.runToEnd();
        return trial.lifts - now.lifts;
    }

    public int when(int place, int what) {
        if (!isPlace(place) || what < 0 || what > 1) {
            return NONE;
        }
        startTrial();
        spare.copy(trial);
        int without = liftsOfTrial();
        int least = without;
        int best = NOT_SO_MANY;
        for (int stop = now.stop; stop < LAST_STOP; stop++) {
            trial.copy(spare);
            trial.turnOver(place);
            int lifts = liftsOfTrial();
            if (lifts + spare.height[place] < least) {
                least = lifts + spare.height[place];
                best = what == 0 ? stop : lifts;
            }
            spare.passStop();
        }
        return best;
    }

    public int byRule(int rule) {
        if (rule < 0 || rule >= RULES) {
            return NONE;
        }
        startTrial();
        trial.rule = rule;
        return liftsOfTrial();
    }

    public int bestRule() {
        int best = 0;
        int least = NO_LIMIT;
        for (int rule = 0; rule < RULES; rule++) {
            startTrial();
            trial.rule = rule;
            int lifts = liftsOfTrial();
            if (lifts < least) {
                least = lifts;
                best = rule;
            }
        }
        return best;
    }

    public int missed(int what) {
        if (what < 0 || what > 1) {
            return NONE;
        }
        startTrial();
        for (int stop = now.stop; stop <= LAST_STOP; stop++) {
            spare.copy(trial);
            trial.takeDown(plan.seconds[stop]);
            int person = trial.firstLate();
            if (person >= 0) {
                return what == 0 ? person : spare.takeDown(NO_LIMIT) - plan.seconds[stop];
            }
            trial.getIn();
            trial.wayOn();
        }
        return NOT_SO_MANY;
    }

    public int falls() {
        if (now.stop > LAST_STOP) {
            return 0;
        }
        startTrial();
        trial.takeDown(plan.seconds[now.stop]);
        trial.getIn();
        return trial.fallOff();
    }

    public int asking() {
        startTrial();
        int unasked = liftsOfTrial();
        startTrial();
        for (int stop = now.stop; stop <= LAST_STOP; stop++) {
            for (int place = 0; place < plan.places; place++) {
                if (trial.isRack(place)) {
                    trial.turnOver(place);
                }
            }
            trial.passStop();
        }
        int fewer = unasked - (trial.lifts - now.lifts);
        return fewer < 0 ? 0 : fewer;
    }

    public int feet() {
        startTrial();
        int sum = 0;
        for (int stop = now.stop; stop <= LAST_STOP; stop++) {
            trial.takeDown(plan.seconds[stop]);
            trial.getIn();
            for (int place = 0; place < plan.places; place++) {
                if (plan.kind[place] == FLOOR) {
                    sum += trial.height[place];
                }
            }
            trial.wayOn();
        }
        return sum;
    }

    public int chance(int seed, int piece) {
        if (seed < 0 || !isPiece(piece)) {
            return NONE;
        }
        int times = 0;
        int last = seed;
        for (int i = 0; i < 10; i++) {
            startTrial();
            trial.drawn = true;
            trial.last = last;
            trial.runToEnd();
            last = trial.last;
            if (trial.state[piece] == TAKEN_OUT) {
                times++;
            }
        }
        return times;
    }

    public int tried(int what, int i) {
        if (what < 0 || what > 4 || (what == 2 ? !isPerson(i) : i != 0)) {
            return NONE;
        }
        startTrial();
        switch (what) {
            case 0:
                trial.falling = false;
                break;
            case 1:
                trial.stealing = false;
                break;
            case 2:
                trial.sendAway(i);
                break;
            case 3:
                trial.strengthenAll();
                break;
            default:
                trial.curve = 0;
                break;
        }
        return liftsOfTrial();
    }

    // ---- what was seen

    public int see(int stop, int piece, int place, boolean is) {
        if (stop < 0 || stop >= LAST_STOP || !isPiece(piece) || !isPlace(place)) {
            return NONE;
        }
        return sights.add(stop, piece, place, is ? 1 : 0);
    }

    public int strike(int seen) {
        if (seen < 0 || seen >= sights.size) {
            return NONE;
        }
        return sights.add(Sights.STRIKE, seen, 0, 0);
    }

    public boolean known(int n) {
        if (n < -1 || n > sights.size) {
            return false;
        }
        sights.knownBy = n;
        return true;
    }

    public int got(int person) {
        if (!isPerson(person)) {
            return NONE;
        }
        sights.judge();
        int stops = 0;
        for (int stop = 0; stop < plan.getsOut[person]; stop++) {
            if (agreesIfIn(person, stop)) {
                stops |= 1 << stop;
            }
        }
        return stops;
    }

    private boolean agreesIfIn(int person, int at) {
        trial.begin(plan);
        trial.drawn = false;
        trial.falling = true;
        trial.stealing = true;
        trial.enter[person] = at;
        for (int stop = 0; stop < LAST_STOP; stop++) {
            trial.takeDown(plan.seconds[stop]);
            trial.getIn();
            if (!sights.agreeWith(trial)) {
                return false;
            }
            trial.wayOn();
        }
        return true;
    }

    /** What a TEXT tells. */
    private static final class Plan {
        int places;
        int persons;
        int pieces;
        int knots;
        int rule;
        int curve;
        int seed;
        final int[] kind = new int[MAX_PLACES];
        final int[] holds = new int[MAX_PLACES];
        final int[] name = new int[MAX_PERSONS];
        final int[] getsIn = new int[MAX_PERSONS];
        final int[] getsOut = new int[MAX_PERSONS];
        final int[] strength = new int[MAX_PERSONS];
        final int[] owner = new int[MAX_PIECES];
        final int[] weight = new int[MAX_PIECES];
        final int[] frail = new int[MAX_PIECES];
        final int[] told = new int[MAX_PIECES];
        final int[] seconds = new int[LAST_STOP + 1];
        final Law[] laws = new Law[LAWS];

        Plan() {
            for (int i = 0; i < LAWS; i++) {
                laws[i] = new Law();
            }
            clear();
        }

        void clear() {
            places = 0;
            persons = 0;
            pieces = 0;
            knots = 0;
            rule = BY_FIRST;
            curve = 0;
            seed = 0;
            for (int stop = 0; stop <= LAST_STOP; stop++) {
                seconds[stop] = USUAL_WAIT;
            }
            for (int i = 0; i < LAWS; i++) {
                laws[i].size = 0;
            }
        }

        int personNamed(int letters) {
            for (int person = 0; person < persons; person++) {
                if (name[person] == letters) {
                    return person;
                }
            }
            return NONE;
        }
    }

    /** A law's formula, its knots in the order in which they are worked out; without knots it isn't told. */
    private static final class Law {
        final int[] knot = new int[MAX_KNOTS];
        int size;
        private final long[] values = new long[MAX_KNOTS];

        void append(int code) {
            if (size < MAX_KNOTS) {
                knot[size] = code;
                size++;
            }
        }

        /** The value by the facts (of the NAMES, in their order), or ERROR. */
        long value(int[] facts) {
            int depth = 0;
            for (int i = 0; i < size; i++) {
                int code = knot[i];
                int kind = code - FIRST_SIGN;
                if (kind < 0) {
                    values[depth] = code;
                    depth++;
                } else if (kind >= T_HEAVY && kind <= T_BEARS) {
                    values[depth] = facts[kind - T_HEAVY];
                    depth++;
                } else if (kind == T_NOT && depth >= 1) {
                    values[depth - 1] = values[depth - 1] == 0 ? 1 : 0;
                } else if (depth >= 2) {
                    depth--;
                    long joined = joined(kind, values[depth - 1], values[depth]);
                    if (joined < -MAX_VALUE || joined > MAX_VALUE) {
                        return ERROR;
                    }
                    values[depth - 1] = joined;
                }
            }
            return depth == 1 ? values[0] : ERROR;
        }

        private static long joined(int kind, long a, long b) {
            switch (kind) {
                case T_OR:
                    return a != 0 || b != 0 ? 1 : 0;
                case T_AND:
                    return a != 0 && b != 0 ? 1 : 0;
                case T_LESS:
                    return a < b ? 1 : 0;
                case T_AT_MOST:
                    return a <= b ? 1 : 0;
                case T_EQUAL:
                    return a == b ? 1 : 0;
                case T_UNEQUAL:
                    return a != b ? 1 : 0;
                case T_AT_LEAST:
                    return a >= b ? 1 : 0;
                case T_MORE:
                    return a > b ? 1 : 0;
                case T_PLUS:
                    return a + b;
                case T_MINUS:
                    return a - b;
                case T_TIMES:
                    if (a == 0) {
                        return 0;
                    }
                    // The product may be beyond a long, so it is asked by division.
                    long most = MAX_VALUE / (a < 0 ? -a : a);
                    return b > most || b < -most ? ERROR : a * b;
                default:
                    return b == 0 ? ERROR : a / b;
            }
        }
    }

    /** The TAPE, and its first bytes cut into tokens, one at a time. */
    private static final class Tokens {
        int length;
        int kind;
        int start;
        int value;
        private final byte[] tape = new byte[MAX_TAPE];
        private final int[] words = new int[WORD_COUNT];
        private int end;
        private int next;

        Tokens() {
            int word = 0;
            int letters = 0;
            int size = 0;
            for (int i = 0; i < WORDS.length() && word < WORD_COUNT; i++) {
                char c = WORDS.charAt(i);
                if (c == ' ') {
                    words[word] = letters << 5 * (6 - size);
                    word++;
                    letters = 0;
                    size = 0;
                } else {
                    letters = letters << 5 | c - 'a' + 1;
                    size++;
                }
            }
        }

        void append(int four) {
            for (int shift = 24; shift >= 0 && length < MAX_TAPE; shift -= 8) {
                tape[length] = (byte) (four >>> shift);
                length++;
            }
        }

        void begin(int n) {
            end = n;
            next = 0;
            advance();
        }

        /** Kind, start and value (a number's, or a name's letters) are those of the next token then. */
        void advance() {
            while (next < end && isBlank(at(next))) {
                next++;
            }
            start = next;
            int c = at(next);
            if (c < 0) {
                kind = T_END;
            } else if (isLetter(c)) {
                readWord();
            } else if (isDigit(c)) {
                readNumber();
            } else {
                next++;
                kind = sign(c, at(next));
                if (kind == T_AT_MOST || kind == T_UNEQUAL || kind == T_AT_LEAST) {
                    next++;
                }
            }
        }

        /** The byte at a position, or NONE behind the end. */
        private int at(int position) {
            return position >= 0 && position < end && position < MAX_TAPE ? tape[position] & 255 : NONE;
        }

        private static boolean isBlank(int c) {
            return c == 10 || c == 32;
        }

        private static boolean isLetter(int c) {
            return c >= 'a' && c <= 'z';
        }

        private static boolean isDigit(int c) {
            return c >= '0' && c <= '9';
        }

        private void readWord() {
            int letters = 0;
            while (next < end && isLetter(at(next))) {
                if (next - start < 6) {
                    letters = letters << 5 | at(next) - 'a' + 1;
                }
                next++;
            }
            int size = next - start;
            if (size > 6) {
                kind = T_BAD;
                return;
            }
            value = letters << 5 * (6 - size);
            kind = T_NAME;
            for (int word = 0; word < WORD_COUNT; word++) {
                if (words[word] == value) {
                    kind = word;
                }
            }
        }

        private void readNumber() {
            value = 0;
            while (next < end && isDigit(at(next))) {
                // No limit of the language has so many digits: what is beyond stays beyond.
                if (value < NO_LIMIT) {
                    value = value * 10 + at(next) - '0';
                }
                next++;
            }
            kind = T_NUMBER;
        }

        private static int sign(int c, int behind) {
            switch (c) {
                case '<':
                    return behind == '=' ? T_AT_MOST : behind == '>' ? T_UNEQUAL : T_LESS;
                case '>':
                    return behind == '=' ? T_AT_LEAST : T_MORE;
                case '=':
                    return T_EQUAL;
                case '+':
                    return T_PLUS;
                case '-':
                    return T_MINUS;
                case '*':
                    return T_TIMES;
                case '/':
                    return T_BY;
                case '(':
                    return T_OPEN;
                case ')':
                    return T_CLOSE;
                case ';':
                    return T_SEMICOLON;
                default:
                    return T_BAD;
            }
        }
    }

    /** Reads a TEXT into a Plan up to the first FAULT. */
    private static final class Reader {
        final Tokens tokens = new Tokens();
        int fault = 0;
        int faultAt = NONE;
        int lines = 0;
        Plan plan = new Plan();
        private int toldOnce;
        private int waitStops;
        private final int[] open = new int[MAX_KNOTS + MAX_OPEN];
        private int opened;
        private int brackets;

        boolean readText(int n) {
            plan.clear();
            fault = 0;
            faultAt = NONE;
            lines = 0;
            toldOnce = 0;
            waitStops = 0;
            tokens.begin(n);
            for (int i = 0; i <= MAX_TAPE && fault == 0 && tokens.kind != T_END; i++) {
                if (readLine() && expect(tokens.kind == T_SEMICOLON, FAULT_TOKEN)) {
                    tokens.advance();
                    lines++;
                }
            }
            return fault == 0;
        }

        private boolean readLine() {
            switch (tokens.kind) {
                case T_PLACE:
                    return readPlace();
                case T_PERSON:
                    return readPerson();
                case T_PIECE:
                    return readPiece();
                case T_WAIT:
                    return readWait();
                case T_RULE:
                    return readRule();
                case T_CURVE:
                    return readCurve();
                case T_SEED:
                    return readSeed();
                case T_LAW:
                    return readLaw();
                default:
                    return expect(false, FAULT_TOKEN);
            }
        }

        /** The FAULT stands at the token that is read now, unless it is right. */
        private boolean expect(boolean right, int otherwise) {
            if (!right) {
                fault = otherwise;
                faultAt = tokens.start;
            }
            return right;
        }

        /** The number that is read now; NONE with a FAULT. */
        private int takeNumber(int from, int to) {
            int value = tokens.value;
            if (!expect(tokens.kind == T_NUMBER, FAULT_TOKEN)
                    || !expect(value >= from && value <= to, FAULT_TOO_MUCH)) {
                return NONE;
            }
            tokens.advance();
            return value;
        }

        /** Which one of the kinds from .. to the token is that is read now; NONE with a FAULT. */
        private int takeWord(int from, int to) {
            int kind = tokens.kind;
            if (!expect(kind >= from && kind <= to, FAULT_TOKEN)) {
                return NONE;
            }
            tokens.advance();
            return kind - from;
        }

        private boolean readPlace() {
            int place = plan.places;
            if (!expect(place < MAX_PLACES, FAULT_TOO_MUCH)) {
                return false;
            }
            tokens.advance();
            int kind = takeWord(T_NET, T_HALL);
            int holds = kind < 0 ? NONE : takeNumber(0, 999);
            if (holds < 0) {
                return false;
            }
            plan.kind[place] = kind;
            plan.holds[place] = holds;
            plan.places++;
            return true;
        }

        private boolean readPerson() {
            int person = plan.persons;
            if (!expect(person < MAX_PERSONS, FAULT_TOO_MUCH)) {
                return false;
            }
            tokens.advance();
            int name = tokens.value;
            if (!expect(tokens.kind == T_NAME, FAULT_TOKEN)
                    || !expect(plan.personNamed(name) < 0, FAULT_AGAIN)) {
                return false;
            }
            tokens.advance();
            int in = takeNumber(0, LAST_STOP - 1);
            int out = in < 0 ? NONE : takeNumber(in + 1, LAST_STOP);
            int strength = out < 0 ? NONE : takeNumber(1, MAX_STRENGTH);
            if (strength < 0) {
                return false;
            }
            plan.name[person] = name;
            plan.getsIn[person] = in;
            plan.getsOut[person] = out;
            plan.strength[person] = strength;
            plan.persons++;
            return true;
        }

        private boolean readPiece() {
            int piece = plan.pieces;
            if (!expect(piece < MAX_PIECES, FAULT_TOO_MUCH)) {
                return false;
            }
            tokens.advance();
            int owner = plan.personNamed(tokens.value);
            if (!expect(tokens.kind == T_NAME, FAULT_TOKEN) || !expect(owner >= 0, FAULT_UNTOLD)) {
                return false;
            }
            tokens.advance();
            int weight = takeNumber(1, 99);
            int frail = weight < 0 ? NONE : takeNumber(0, 9);
            if (frail < 0) {
                return false;
            }
            int told = NONE;
            if (tokens.kind == T_NUMBER) {
                told = tokens.value;
                if (!expect(told < plan.places, FAULT_UNTOLD)) {
                    return false;
                }
                tokens.advance();
            }
            plan.owner[piece] = owner;
            plan.weight[piece] = weight;
            plan.frail[piece] = frail;
            plan.told[piece] = told;
            plan.pieces++;
            return true;
        }

        private boolean readWait() {
            if (!expect(Integer.bitCount(waitStops) < MAX_WAITS, FAULT_TOO_MUCH)) {
                return false;
            }
            tokens.advance();
            int stop = tokens.value;
            if (!expect(tokens.kind == T_NUMBER, FAULT_TOKEN)
                    || !expect(stop < LAST_STOP, FAULT_TOO_MUCH)
                    || !expect((waitStops >> stop & 1) == 0, FAULT_AGAIN)) {
                return false;
            }
            tokens.advance();
            int seconds = takeNumber(0, 999);
            if (seconds < 0) {
                return false;
            }
            waitStops |= 1 << stop;
            plan.seconds[stop] = seconds;
            return true;
        }

        /** Of rule, curve and seed each stands once. */
        private boolean startOnce() {
            int bit = 1 << tokens.kind - T_RULE;
            if (!expect((toldOnce & bit) == 0, FAULT_AGAIN)) {
                return false;
            }
            toldOnce |= bit;
            tokens.advance();
            return true;
        }

        private boolean readRule() {
            if (!startOnce()) {
                return false;
            }
            plan.rule = takeWord(T_FIRST, T_LAST);
            return plan.rule >= 0;
        }

        private boolean readCurve() {
            if (!startOnce()) {
                return false;
            }
            plan.curve = takeNumber(0, 99);
            return plan.curve >= 0;
        }

        private boolean readSeed() {
            if (!startOnce()) {
                return false;
            }
            plan.seed = takeNumber(0, 99999);
            return plan.seed >= 0;
        }

        private boolean readLaw() {
            tokens.advance();
            int which = tokens.kind - T_LIFT;
            if (!expect(which >= LIFT && which <= STEAL, FAULT_TOKEN)
                    || !expect(plan.laws[which].size == 0, FAULT_AGAIN)) {
                return false;
            }
            tokens.advance();
            return readFormula(plan.laws[which]);
        }

        /** Signs wait in a row of open ones until what stands behind them is read: so no recursion is needed. */
        private boolean readFormula(Law law) {
            opened = 0;
            brackets = 0;
            boolean wanted = true;
            boolean more = true;
            for (int i = 0; i <= MAX_TAPE && more; i++) {
                if (wanted) {
                    wanted = tokens.kind == T_OPEN || tokens.kind == T_NOT;
                    more = readOperand(law);
                } else if (isJoining(tokens.kind)) {
                    wanted = true;
                    more = readJoining(law);
                } else {
                    more = tokens.kind == T_CLOSE && brackets > 0;
                    if (more) {
                        closeBracket(law);
                    }
                }
                if (more) {
                    tokens.advance();
                }
            }
            closeSigns(law, BINDS_LEAST);
            return fault == 0 && expect(brackets == 0, FAULT_TOKEN);
        }

        private static boolean isFact(int kind) {
            return kind >= T_HEAVY && kind <= T_BEARS;
        }

        private static boolean isJoining(int kind) {
            return kind == T_OR || kind == T_AND || kind >= T_LESS && kind <= T_BY;
        }

        /** How tightly the latest open sign binds; NONE without one. */
        private int latestBinds() {
            return opened == 0 ? NONE : BINDS[open[opened - 1]];
        }

        private boolean readOperand(Law law) {
            int kind = tokens.kind;
            if (kind == T_OPEN) {
                return expect(brackets < MAX_OPEN, FAULT_TOO_MUCH) && openBracket();
            }
            if (kind == T_NOT) {
                return expect(latestBinds() <= BINDS[kind], FAULT_TOKEN) && countKnot() && openSign(kind);
            }
            if (kind == T_NUMBER) {
                boolean small = expect(tokens.value < FIRST_SIGN, FAULT_TOO_MUCH);
                return small && countKnot() && put(law, tokens.value);
            }
            return expect(isFact(kind), FAULT_TOKEN) && countKnot() && put(law, FIRST_SIGN + kind);
        }

        private boolean readJoining(Law law) {
            int binds = BINDS[tokens.kind];
            boolean compares = binds == BINDS_COMPARISON;
            // A comparison doesn't close another one: two of them can't stand in one C.
            closeSigns(law, compares ? binds + 1 : binds);
            return expect(!compares || latestBinds() < binds, FAULT_TOKEN) && countKnot() && openSign(tokens.kind);
        }

        private boolean openBracket() {
            brackets++;
            return openSign(T_OPEN);
        }

        private void closeBracket(Law law) {
            closeSigns(law, BINDS_LEAST);
            opened--;
            brackets--;
        }

        private boolean openSign(int kind) {
            if (opened < open.length) {
                open[opened] = kind;
                opened++;
            }
            return true;
        }

        private static boolean put(Law law, int code) {
            law.append(code);
            return true;
        }

        private boolean countKnot() {
            if (!expect(plan.knots < MAX_KNOTS, FAULT_TOO_MUCH)) {
                return false;
            }
            plan.knots++;
            return true;
        }

        /** What binds at least so tightly is no longer open; with BINDS_LEAST all down to the bracket. */
        private void closeSigns(Law law, int binds) {
            while (opened > 0 && latestBinds() >= binds) {
                opened--;
                law.append(FIRST_SIGN + open[opened]);
            }
        }
    }

    /** A journey at a STOP: who is aboard, what lies where. */
    private static final class Train {
        int stop;
        int lifts;
        int last;
        int rule;
        int curve;
        boolean drawn;
        boolean falling;
        boolean stealing;
        final int[] enter = new int[MAX_PERSONS];
        final int[] strength = new int[MAX_PERSONS];
        final int[] aboard = new int[MAX_PERSONS];
        final int[] spent = new int[MAX_PERSONS];
        final int[] told = new int[MAX_PIECES];
        final int[] state = new int[MAX_PIECES];
        final int[] where = new int[MAX_PIECES];
        final int[] stack = new int[MAX_PLACES * MAX_PIECES];
        final int[] height = new int[MAX_PLACES];
        final int[] load = new int[MAX_PLACES];
        private final int[] facts = new int[7];
        private Plan plan;

        Train(Plan first) {
            begin(first);
            drawn = false;
            falling = true;
            stealing = true;
        }

        void begin(Plan from) {
            plan = from;
            stop = 0;
            lifts = 0;
            last = from.seed;
            rule = from.rule;
            curve = from.curve;
            for (int person = 0; person < MAX_PERSONS; person++) {
                enter[person] = from.getsIn[person];
                strength[person] = from.strength[person];
                aboard[person] = AWAITED;
                spent[person] = 0;
            }
            for (int piece = 0; piece < MAX_PIECES; piece++) {
                told[piece] = from.told[piece];
                state[piece] = TO_COME;
                where[piece] = NONE;
            }
            for (int place = 0; place < MAX_PLACES; place++) {
                height[place] = 0;
                load[place] = 0;
            }
        }

        /** All of the journey, but not by which chance it goes on. */
        void copy(Train other) {
            plan = other.plan;
            stop = other.stop;
            lifts = other.lifts;
            last = other.last;
            rule = other.rule;
            curve = other.curve;
            System.arraycopy(other.enter, 0, enter, 0, MAX_PERSONS);
            System.arraycopy(other.strength, 0, strength, 0, MAX_PERSONS);
            System.arraycopy(other.aboard, 0, aboard, 0, MAX_PERSONS);
            System.arraycopy(other.spent, 0, spent, 0, MAX_PERSONS);
            System.arraycopy(other.told, 0, told, 0, MAX_PIECES);
            System.arraycopy(other.state, 0, state, 0, MAX_PIECES);
            System.arraycopy(other.where, 0, where, 0, MAX_PIECES);
            System.arraycopy(other.stack, 0, stack, 0, MAX_PLACES * MAX_PIECES);
            System.arraycopy(other.height, 0, height, 0, MAX_PLACES);
            System.arraycopy(other.load, 0, load, 0, MAX_PLACES);
        }

        // -- asked

        int top(int place) {
            return height[place] == 0 ? NONE : stack[place * MAX_PIECES + height[place] - 1];
        }

        /** Where in its stack a piece lies, from 0 at the bottom; NONE: in no place. */
        private int level(int piece) {
            int place = where[piece];
            if (place >= 0) {
                for (int i = 0; i < height[place]; i++) {
                    if (stack[place * MAX_PIECES + i] == piece) {
                        return i;
                    }
                }
            }
            return NONE;
        }

        int above(int piece) {
            int place = where[piece];
            return place < 0 ? 0 : height[place] - 1 - level(piece);
        }

        boolean hasRoom(int place, int piece) {
            return load[place] + plan.weight[piece] <= plan.holds[place];
        }

        boolean isRack(int place) {
            return plan.kind[place] == NET || plan.kind[place] == SHELF;
        }

        int piecesThatAre(int which) {
            int size = 0;
            for (int piece = 0; piece < plan.pieces; piece++) {
                if (state[piece] == which) {
                    size++;
                }
            }
            return size;
        }

        int personsAboard() {
            int size = 0;
            for (int person = 0; person < plan.persons; person++) {
                if (aboard[person] == ABOARD) {
                    size++;
                }
            }
            return size;
        }

        /** The first who gets out at this stop and is still aboard. */
        int firstLate() {
            for (int person = 0; person < plan.persons; person++) {
                if (aboard[person] == ABOARD && plan.getsOut[person] == stop) {
                    return person;
                }
            }
            return NONE;
        }

        private boolean hasPlaced(int person) {
            for (int piece = 0; piece < plan.pieces; piece++) {
                if (plan.owner[piece] == person && state[piece] == PLACED) {
                    return true;
                }
            }
            return false;
        }

        /** Whether anybody is still to come or to get out: else nothing happens any more. */
        private boolean isBusy() {
            for (int person = 0; person < plan.persons; person++) {
                if (aboard[person] != GONE) {
                    return true;
                }
            }
            return false;
        }

        // -- the laws

        /** What a law's formula gives for a piece in a place, taken down by one of that strength; or ERROR. */
        long worked(int which, int piece, int able) {
            int place = where[piece];
            Law law = plan.laws[which];
            if (law.size == 0 || place < 0) {
                return ERROR;
            }
            facts[0] = plan.weight[piece];
            facts[1] = plan.frail[piece];
            facts[2] = height[place] - 1 - level(piece);
            facts[3] = plan.kind[place];
            facts[4] = able;
            facts[5] = stop;
            facts[6] = load[place];
            return law.value(facts);
        }

        private static int within(long value, int most) {
            return value < 0 ? 0 : value > most ? most : (int) value;
        }

        /** SECONDS of lifting the piece and all above it. */
        private int secondsFor(int piece, int able) {
            int from = level(piece);
            if (from < 0) {
                return 0;
            }
            int place = where[piece];
            int seconds = 0;
            for (int i = from; i < height[place]; i++) {
                int thing = stack[place * MAX_PIECES + i];
                long told = worked(LIFT, thing, able);
                if (told != ERROR) {
                    seconds += within(told, 99);
                } else if (able > 0) {
                    seconds += plan.weight[thing] / able + 1;
                }
            }
            return seconds;
        }

        private int fallPercent(int piece) {
            long told = worked(FALL, piece, strength[plan.owner[piece]]);
            return within(told != ERROR ? told : curve + 10 * level(piece) - plan.weight[piece], 100);
        }

        private int stealPercent(int piece) {
            long told = worked(STEAL, piece, strength[plan.owner[piece]]);
            return told != ERROR ? within(told, 100) : 10;
        }

        private boolean happens(int percent) {
            if (!drawn) {
                return percent >= 50;
            }
            last = last * 1103515245 + 12345 & Integer.MAX_VALUE;
            return percent > (last >>> 16) % 100;
        }

        // -- stacks

        void putOn(int place, int piece) {
            int level = height[place];
            if (level < MAX_PIECES) {
                stack[place * MAX_PIECES + level] = piece;
                height[place] = level + 1;
                load[place] += plan.weight[piece];
                where[piece] = place;
                state[piece] = PLACED;
            }
        }

        void takeAway(int piece, int newState) {
            int from = level(piece);
            if (from < 0) {
                return;
            }
            int place = where[piece];
            for (int i = from; i + 1 < height[place]; i++) {
                stack[place * MAX_PIECES + i] = stack[place * MAX_PIECES + i + 1];
            }
            height[place]--;
            load[place] -= plan.weight[piece];
            where[piece] = NONE;
            state[piece] = newState;
        }

        /** Whether a piece is to lie higher than another one in a stack that is turned. */
        private boolean goesAbove(int piece, int other) {
            int out = plan.getsOut[plan.owner[piece]];
            int otherOut = plan.getsOut[plan.owner[other]];
            return out != otherOut ? out < otherOut : piece < other;
        }

        /** How many of the pieces in a place are to lie below this one when they are turned. */
        private int turnedLevel(int place, int piece) {
            int level = 0;
            for (int i = 0; i < height[place]; i++) {
                if (goesAbove(piece, stack[place * MAX_PIECES + i])) {
                    level++;
                }
            }
            return level;
        }

        /** How many pieces lie at another level then. */
        int turnOver(int place) {
            int base = place * MAX_PIECES;
            int changed = 0;
            for (int i = 0; i < height[place]; i++) {
                if (turnedLevel(place, stack[base + i]) != i) {
                    changed++;
                }
            }
            for (int i = 1; i < height[place]; i++) {
                int piece = stack[base + i];
                int level = i;
                while (level > 0 && goesAbove(stack[base + level - 1], piece)) {
                    stack[base + level] = stack[base + level - 1];
                    level--;
                }
                stack[base + level] = piece;
            }
            return changed;
        }

        // -- a stop and the way behind it

        /** Part (1) of a STOP with so many SECONDS: how many are used. */
        int takeDown(int limit) {
            int used = 0;
            boolean time = true;
            for (int person = 0; person < plan.persons; person++) {
                if (aboard[person] != ABOARD || plan.getsOut[person] > stop) {
                    continue;
                }
                for (int piece = 0; piece < plan.pieces && time; piece++) {
                    if (plan.owner[piece] != person || state[piece] != PLACED) {
                        continue;
                    }
                    int seconds = secondsFor(piece, strength[person]);
                    time = used + seconds <= limit;
                    if (time) {
                        used += seconds;
                        spent[person] += seconds;
                        lifts += above(piece);
                        takeAway(piece, TAKEN_OUT);
                    }
                }
                if (stop == LAST_STOP) {
                    setFree(person, LEFT);
                }
                if (!hasPlaced(person)) {
                    aboard[person] = GONE;
                }
            }
            return used;
        }

        /** All pieces of a person that lie in places go without being lifted. */
        private void setFree(int person, int newState) {
            for (int piece = 0; piece < plan.pieces; piece++) {
                if (plan.owner[piece] == person && state[piece] == PLACED) {
                    takeAway(piece, newState);
                }
            }
        }

        /** Part (2) of a STOP. */
        void getIn() {
            for (int person = 0; person < plan.persons; person++) {
                if (aboard[person] != AWAITED || enter[person] != stop) {
                    continue;
                }
                aboard[person] = ABOARD;
                for (int piece = 0; piece < plan.pieces; piece++) {
                    if (plan.owner[piece] == person) {
                        stow(piece);
                    }
                }
            }
        }

        private void stow(int piece) {
            int place = told[piece];
            if (place < 0) {
                place = placeByRule(piece);
            } else if (!hasRoom(place, piece)) {
                place = NONE;
            }
            if (place < 0) {
                state[piece] = LEFT;
            } else {
                putOn(place, piece);
            }
        }

        private int placeByRule(int piece) {
            int best = NONE;
            for (int place = 0; place < plan.places; place++) {
                if (hasRoom(place, piece)) {
                    boolean better = rule == BY_FIRST ? best < 0
                            : rule != BY_LIGHT || best < 0 || load[place] < load[best];
                    best = better ? place : best;
                }
            }
            return best;
        }

        /** What falls on the way (bits). */
        int fallOff() {
            int fallen = 0;
            for (int place = 0; place < plan.places && falling; place++) {
                int piece = top(place);
                if (piece >= 0 && isRack(place) && happens(fallPercent(piece))) {
                    takeAway(piece, FALLEN);
                    fallen |= 1 << piece;
                }
            }
            return fallen;
        }

        private void stealAway() {
            for (int piece = 0; piece < plan.pieces && stealing; piece++) {
                int place = where[piece];
                if (place >= 0 && plan.kind[place] == HALL && happens(stealPercent(piece))) {
                    takeAway(piece, STOLEN);
                }
            }
        }

        /** Part (3) of a STOP. */
        void wayOn() {
            fallOff();
            stealAway();
            stop++;
        }

        void passStop() {
            if (stop <= LAST_STOP) {
                takeDown(plan.seconds[stop]);
                getIn();
                wayOn();
            }
        }

        void runToEnd() {
            while (stop <= LAST_STOP && isBusy()) {
                takeDown(plan.seconds[stop]);
                getIn();
                fallOff();
                stealAway();
                stop++;
            }
        }

        // -- tried otherwise

        void sendAway(int person) {
            if (aboard[person] == ABOARD) {
                setFree(person, TAKEN_OUT);
            }
            aboard[person] = GONE;
        }

        void strengthenAll() {
            for (int person = 0; person < MAX_PERSONS; person++) {
                strength[person] = MAX_STRENGTH;
            }
        }
    }

    /** What moves, turns and help changed, as it was ahead of each: the latest ones alone. */
    private static final class Changes {
        private static final int ROW = MAX_PLACES * MAX_PIECES + 2 * MAX_PLACES + MAX_PIECES + MAX_PERSONS;

        int size = 0;
        private int next = 0;
        private final int[] rows = new int[MAX_UNDO * ROW];

        void save(Train train) {
            int at = next * ROW;
            at = saveRow(train.stack, at);
            at = saveRow(train.height, at);
            at = saveRow(train.load, at);
            at = saveRow(train.where, at);
            saveRow(train.strength, at);
            next = (next + 1) % MAX_UNDO;
            size = size == MAX_UNDO ? MAX_UNDO : size + 1;
        }

        private int saveRow(int[] row, int at) {
            System.arraycopy(row, 0, rows, at, row.length);
            return at + row.length;
        }

        void bringBack(Train train) {
            if (size == 0) {
                return;
            }
            next = (next + MAX_UNDO - 1) % MAX_UNDO;
            size--;
            int at = next * ROW;
            at = bringRow(train.stack, at);
            at = bringRow(train.height, at);
            at = bringRow(train.load, at);
            at = bringRow(train.where, at);
            bringRow(train.strength, at);
        }

        private int bringRow(int[] row, int at) {
            System.arraycopy(rows, at, row, 0, row.length);
            return at + row.length;
        }
    }

    /** What was SEEN and STRUCK, in one numbering. */
    private static final class Sights {
        static final int STRIKE = -1;

        int size = 0;
        int knownBy = -1;
        private final int[] at = new int[MAX_SEEN];
        private final int[] what = new int[MAX_SEEN];
        private final int[] where = new int[MAX_SEEN];
        private final int[] is = new int[MAX_SEEN];
        private final boolean[] counts = new boolean[MAX_SEEN];

        void forget() {
            size = 0;
            knownBy = -1;
        }

        int add(int stop, int pieceOrSeen, int place, int yes) {
            if (size >= MAX_SEEN) {
                return NONE;
            }
            at[size] = stop;
            what[size] = pieceOrSeen;
            where[size] = place;
            is[size] = yes;
            size++;
            return size - 1;
        }

        int regarded() {
            return knownBy < 0 ? size : knownBy;
        }

        /** Works out from the last one on which of those regarded count: a strike that is struck strikes nothing. */
        void judge() {
            int regarded = regarded();
            for (int i = 0; i < MAX_SEEN; i++) {
                counts[i] = i < regarded;
            }
            for (int i = regarded - 1; i >= 0; i--) {
                if (counts[i] && at[i] == STRIKE) {
                    counts[what[i]] = false;
                }
            }
        }

        /** Whether all that counts and was seen at this stop is so in a train behind (2) of it. */
        boolean agreeWith(Train train) {
            for (int i = 0; i < size; i++) {
                if (counts[i] && at[i] == train.stop && (train.where[what[i]] == where[i]) != (is[i] == 1)) {
                    return false;
                }
            }
            return true;
        }
    }
}
