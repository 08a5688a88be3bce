import java.math.BigInteger;
import java.util.ArrayList;
import java.util.Arrays;
import java.util.HashMap;
import java.util.List;
import java.util.Map;
import java.util.NoSuchElementException;

/**
 * The document once more, written from its words in another way than the class: lists, recursion, big numbers, and
 * every journey run to its last stop. The random runs ask both and compare.
 */
final class Model {
    static final class Wrong extends Exception {
        private static final long serialVersionUID = 1L;
        final int fault;
        final int at;

        Wrong(int fault, int at) {
            this.fault = fault;
            this.at = at;
        }
    }

    static final class Token {
        final String text;
        final int at;

        Token(String text, int at) {
            this.text = text;
            this.at = at;
        }
    }

    interface Formula {
        BigInteger value(Map<String, Integer> names) throws Wrong;
    }

    static final class Place {
        int kind;
        int holds;
    }

    static final class Person {
        String name;
        int in;
        int out;
        int strength;
    }

    static final class Piece {
        int owner;
        int weight;
        int frail;
        int told = -1;
    }

    static final class Text {
        final List<Place> places = new ArrayList<>();
        final List<Person> persons = new ArrayList<>();
        final List<Piece> pieces = new ArrayList<>();
        final Map<Integer, Integer> waits = new HashMap<>();
        final Map<String, Formula> laws = new HashMap<>();
        String rule = null;
        Integer curve = null;
        Integer seed = null;
        int knots = 0;
        int lines = 0;

        int wait(int stop) {
            return waits.getOrDefault(stop, 60);
        }
    }

    static final List<String> KINDS = Arrays.asList("net", "shelf", "floor", "seat", "hall");
    static final List<String> RULES = Arrays.asList("first", "light", "last");
    static final List<String> LAWS = Arrays.asList("lift", "fall", "steal");
    static final List<String> NAMES = Arrays.asList("heavy", "frail", "above", "kind", "able", "stop", "bears");
    static final List<String> OTHERS = Arrays.asList("place", "person", "piece", "wait", "rule", "curve", "seed",
            "law", "or", "and", "not");
    static final BigInteger MOST = BigInteger.TEN.pow(12);

    // ---- reading

    static final class Parser {
        final List<Token> tokens = new ArrayList<>();
        int next = 0;
        int depth = 0;
        final Text text = new Text();

        Parser(String s) {
            int i = 0;
            while (i < s.length()) {
                char c = s.charAt(i);
                int from = i;
                if (c == ' ' || c == '\n') {
                    i++;
                    continue;
                }
                if (c >= 'a' && c <= 'z') {
                    while (i < s.length() && s.charAt(i) >= 'a' && s.charAt(i) <= 'z') {
                        i++;
                    }
                } else if (c >= '0' && c <= '9') {
                    while (i < s.length() && s.charAt(i) >= '0' && s.charAt(i) <= '9') {
                        i++;
                    }
                } else if (s.startsWith("<=", i) || s.startsWith("<>", i) || s.startsWith(">=", i)) {
                    i += 2;
                } else {
                    i++;
                }
                tokens.add(new Token(s.substring(from, i), from));
            }
            tokens.add(new Token("", s.length()));
        }

        String peek() {
            return tokens.get(next).text;
        }

        int at() {
            return tokens.get(next).at;
        }

        Wrong wrong(int fault) {
            return new Wrong(fault, at());
        }

        boolean isNumber() {
            return peek().matches("[0-9]+");
        }

        boolean isOwnWord() {
            String w = peek();
            return w.matches("[a-z]{1,6}") && !KINDS.contains(w) && !RULES.contains(w) && !LAWS.contains(w)
                    && !NAMES.contains(w) && !OTHERS.contains(w);
        }

        int number(int least, int most) throws Wrong {
            if (!isNumber()) {
                throw wrong(1);
            }
            BigInteger n = new BigInteger(peek());
            if (n.compareTo(BigInteger.valueOf(least)) < 0 || n.compareTo(BigInteger.valueOf(most)) > 0) {
                throw wrong(2);
            }
            next++;
            return n.intValue();
        }

        int oneOf(List<String> words) throws Wrong {
            int i = words.indexOf(peek());
            if (i < 0) {
                throw wrong(1);
            }
            next++;
            return i;
        }

        int personHere() {
            for (int i = 0; i < text.persons.size(); i++) {
                if (text.persons.get(i).name.equals(peek())) {
                    return i;
                }
            }
            return -1;
        }

        Text parse() throws Wrong {
            while (!peek().isEmpty()) {
                line();
                if (!peek().equals(";")) {
                    throw wrong(1);
                }
                next++;
                text.lines++;
            }
            return text;
        }

        void line() throws Wrong {
            String word = peek();
            if (word.equals("place")) {
                placeLine();
            } else if (word.equals("person")) {
                personLine();
            } else if (word.equals("piece")) {
                pieceLine();
            } else if (word.equals("wait")) {
                waitLine();
            } else if (word.equals("rule")) {
                once(text.rule != null);
                text.rule = RULES.get(oneOf(RULES));
            } else if (word.equals("curve")) {
                once(text.curve != null);
                text.curve = number(0, 99);
            } else if (word.equals("seed")) {
                once(text.seed != null);
                text.seed = number(0, 99999);
            } else if (word.equals("law")) {
                next++;
                String law = peek();
                if (!LAWS.contains(law)) {
                    throw wrong(1);
                }
                once(text.laws.containsKey(law));
                text.laws.put(law, e());
            } else {
                throw wrong(1);
            }
        }

        void once(boolean told) throws Wrong {
            if (told) {
                throw wrong(3);
            }
            next++;
        }

        void room(int size, int most) throws Wrong {
            if (size >= most) {
                throw wrong(2);
            }
            next++;
        }

        void placeLine() throws Wrong {
            room(text.places.size(), 5);
            Place p = new Place();
            p.kind = oneOf(KINDS);
            p.holds = number(0, 999);
            text.places.add(p);
        }

        void personLine() throws Wrong {
            room(text.persons.size(), 6);
            if (!isOwnWord()) {
                throw wrong(1);
            }
            if (personHere() >= 0) {
                throw wrong(3);
            }
            Person p = new Person();
            p.name = peek();
            next++;
            p.in = number(0, 19);
            p.out = number(p.in + 1, 20);
            p.strength = number(1, 99);
            text.persons.add(p);
        }

        void pieceLine() throws Wrong {
            room(text.pieces.size(), 10);
            if (!isOwnWord()) {
                throw wrong(1);
            }
            if (personHere() < 0) {
                throw wrong(4);
            }
            Piece p = new Piece();
            p.owner = personHere();
            next++;
            p.weight = number(1, 99);
            p.frail = number(0, 9);
            if (isNumber()) {
                if (new BigInteger(peek()).compareTo(BigInteger.valueOf(text.places.size())) >= 0) {
                    throw wrong(4);
                }
                p.told = Integer.parseInt(peek());
                next++;
            }
            text.pieces.add(p);
        }

        void waitLine() throws Wrong {
            room(text.waits.size(), 10);
            int here = next;
            int stop = number(0, 19);
            if (text.waits.containsKey(stop)) {
                next = here;
                throw wrong(3);
            }
            text.waits.put(stop, number(0, 999));
        }

        void knot() throws Wrong {
            if (text.knots == 64) {
                throw wrong(2);
            }
            text.knots++;
            next++;
        }

        Formula e() throws Wrong {
            Formula left = a();
            while (peek().equals("or")) {
                knot();
                left = join("or", left, a());
            }
            return left;
        }

        Formula a() throws Wrong {
            Formula left = b();
            while (peek().equals("and")) {
                knot();
                left = join("and", left, b());
            }
            return left;
        }

        Formula b() throws Wrong {
            if (peek().equals("not")) {
                knot();
                Formula inner = b();
                return names -> inner.value(names).signum() == 0 ? BigInteger.ONE : BigInteger.ZERO;
            }
            return c();
        }

        Formula c() throws Wrong {
            Formula left = s();
            if (Arrays.asList("<", "<=", "=", "<>", ">=", ">").contains(peek())) {
                String sign = peek();
                knot();
                return join(sign, left, s());
            }
            return left;
        }

        Formula s() throws Wrong {
            Formula left = t();
            while (peek().equals("+") || peek().equals("-")) {
                String sign = peek();
                knot();
                left = join(sign, left, t());
            }
            return left;
        }

        Formula t() throws Wrong {
            Formula left = p();
            while (peek().equals("*") || peek().equals("/")) {
                String sign = peek();
                knot();
                left = join(sign, left, p());
            }
            return left;
        }

        Formula p() throws Wrong {
            String word = peek();
            if (word.equals("(")) {
                if (depth == 8) {
                    throw wrong(2);
                }
                depth++;
                next++;
                Formula inner = e();
                if (!peek().equals(")")) {
                    throw wrong(1);
                }
                next++;
                depth--;
                return inner;
            }
            if (isNumber()) {
                BigInteger n = new BigInteger(word);
                if (n.compareTo(BigInteger.valueOf(9999)) > 0) {
                    throw wrong(2);
                }
                knot();
                return names -> n;
            }
            if (!NAMES.contains(word)) {
                throw wrong(1);
            }
            knot();
            return names -> BigInteger.valueOf(names.get(word));
        }

        static Formula join(String sign, Formula left, Formula right) {
            return names -> {
                BigInteger a = left.value(names);
                BigInteger b = right.value(names);
                BigInteger v = joined(sign, a, b);
                if (v.abs().compareTo(MOST) > 0) {
                    throw new Wrong(0, 0);
                }
                return v;
            };
        }

        static BigInteger joined(String sign, BigInteger a, BigInteger b) throws Wrong {
            int order = a.compareTo(b);
            switch (sign) {
                case "or":
                    return truth(a.signum() != 0 || b.signum() != 0);
                case "and":
                    return truth(a.signum() != 0 && b.signum() != 0);
                case "<":
                    return truth(order < 0);
                case "<=":
                    return truth(order <= 0);
                case "=":
                    return truth(order == 0);
                case "<>":
                    return truth(order != 0);
                case ">=":
                    return truth(order >= 0);
                case ">":
                    return truth(order > 0);
                case "+":
                    return a.add(b);
                case "-":
                    return a.subtract(b);
                case "*":
                    return a.multiply(b);
                default:
                    if (b.signum() == 0) {
                        throw new Wrong(0, 0);
                    }
                    return a.divide(b);
            }
        }

        static BigInteger truth(boolean yes) {
            return yes ? BigInteger.ONE : BigInteger.ZERO;
        }
    }

    // ---- a journey

    static final class Journey {
        Text text;
        int stop = 0;
        int lifts = 0;
        long last;
        int rule;
        int curve;
        boolean drawn = false;
        boolean noFall = false;
        boolean noTheft = false;
        List<List<Integer>> stacks = new ArrayList<>();
        int[] enter;
        int[] strength;
        int[] aboard;
        int[] spent;
        int[] state;
        int[] choice;

        Journey(Text text) {
            this.text = text;
            last = text.seed == null ? 0 : text.seed;
            rule = text.rule == null ? 0 : RULES.indexOf(text.rule);
            curve = text.curve == null ? 0 : text.curve;
            int persons = text.persons.size();
            enter = new int[persons];
            strength = new int[persons];
            aboard = new int[persons];
            spent = new int[persons];
            for (int i = 0; i < persons; i++) {
                enter[i] = text.persons.get(i).in;
                strength[i] = text.persons.get(i).strength;
            }
            state = new int[text.pieces.size()];
            choice = new int[text.pieces.size()];
            for (int i = 0; i < choice.length; i++) {
                choice[i] = text.pieces.get(i).told;
            }
            for (int i = 0; i < text.places.size(); i++) {
                stacks.add(new ArrayList<>());
            }
        }

        Journey(Journey other) {
            text = other.text;
            stop = other.stop;
            lifts = other.lifts;
            last = other.last;
            rule = other.rule;
            curve = other.curve;
            for (List<Integer> stack : other.stacks) {
                stacks.add(new ArrayList<>(stack));
            }
            enter = other.enter.clone();
            strength = other.strength.clone();
            aboard = other.aboard.clone();
            spent = other.spent.clone();
            state = other.state.clone();
            choice = other.choice.clone();
        }

        int placeOf(int piece) {
            for (int p = 0; p < stacks.size(); p++) {
                if (stacks.get(p).contains(piece)) {
                    return p;
                }
            }
            return -1;
        }

        int above(int piece) {
            int p = placeOf(piece);
            return p < 0 ? 0 : stacks.get(p).size() - 1 - stacks.get(p).indexOf(piece);
        }

        int load(int place) {
            int sum = 0;
            for (int piece : stacks.get(place)) {
                sum += text.pieces.get(piece).weight;
            }
            return sum;
        }

        boolean holds(int place, int piece) {
            return load(place) + text.pieces.get(piece).weight <= text.places.get(place).holds;
        }

        void remove(int piece, int newState) {
            stacks.get(placeOf(piece)).remove(Integer.valueOf(piece));
            state[piece] = newState;
        }

        Long law(String which, int piece, int able) {
            int place = placeOf(piece);
            if (place < 0 || !text.laws.containsKey(which)) {
                return null;
            }
            Map<String, Integer> names = new HashMap<>();
            names.put("heavy", text.pieces.get(piece).weight);
            names.put("frail", text.pieces.get(piece).frail);
            names.put("above", above(piece));
            names.put("kind", text.places.get(place).kind);
            names.put("able", able);
            names.put("stop", stop);
            names.put("bears", load(place));
            try {
                return text.laws.get(which).value(names).longValueExact();
            } catch (Wrong e) {
                return null;
            }
        }

        int lifting(int thing, int able) {
            Long v = law("lift", thing, able);
            return v == null ? text.pieces.get(thing).weight / able + 1 : (int) Math.max(0, Math.min(99, v));
        }

        int seconds(int piece, int able) {
            List<Integer> stack = stacks.get(placeOf(piece));
            int sum = 0;
            for (int thing : stack.subList(stack.indexOf(piece), stack.size())) {
                sum += lifting(thing, able);
            }
            return sum;
        }

        boolean has(int person) {
            for (int i = 0; i < state.length; i++) {
                if (text.pieces.get(i).owner == person && state[i] == 1) {
                    return true;
                }
            }
            return false;
        }

        int one(long limit) {
            int used = 0;
            boolean stuck = false;
            for (int person = 0; person < aboard.length; person++) {
                if (aboard[person] != 1 || text.persons.get(person).out > stop) {
                    continue;
                }
                for (int i = 0; i < state.length; i++) {
                    if (text.pieces.get(i).owner == person && state[i] == 1 && !stuck) {
                        int s = seconds(i, strength[person]);
                        if (used + s > limit) {
                            stuck = true;
                        } else {
                            used += s;
                            spent[person] += s;
                            lifts += above(i);
                            remove(i, 2);
                        }
                    }
                }
            }
            for (int person = 0; person < aboard.length; person++) {
                if (aboard[person] == 1 && text.persons.get(person).out <= stop) {
                    if (stop == 20) {
                        for (int i = 0; i < state.length; i++) {
                            if (text.pieces.get(i).owner == person && state[i] == 1) {
                                remove(i, 5);
                            }
                        }
                    }
                    if (!has(person)) {
                        aboard[person] = 2;
                    }
                }
            }
            return used;
        }

        void two() {
            for (int person = 0; person < aboard.length; person++) {
                if (aboard[person] == 0 && enter[person] == stop) {
                    aboard[person] = 1;
                    for (int i = 0; i < state.length; i++) {
                        if (text.pieces.get(i).owner == person) {
                            stow(i);
                        }
                    }
                }
            }
        }

        void stow(int piece) {
            List<Integer> can = new ArrayList<>();
            for (int p = 0; p < stacks.size(); p++) {
                if (holds(p, piece) && (choice[piece] < 0 || choice[piece] == p)) {
                    can.add(p);
                }
            }
            if (can.isEmpty()) {
                state[piece] = 5;
                return;
            }
            int p = can.get(0);
            if (rule == 2) {
                p = can.get(can.size() - 1);
            } else if (rule == 1) {
                for (int q : can) {
                    p = load(q) < load(p) ? q : p;
                }
            }
            state[piece] = 1;
            stacks.get(p).add(piece);
        }

        boolean drawsOn(long percent) {
            if (!drawn) {
                return percent >= 50;
            }
            last = (last * 1103515245L + 12345L) % (1L << 31);
            return percent > last / 65536 % 100;
        }

        int fall() {
            int bits = 0;
            if (noFall) {
                return 0;
            }
            for (int p = 0; p < stacks.size(); p++) {
                List<Integer> stack = stacks.get(p);
                if (text.places.get(p).kind > 1 || stack.isEmpty()) {
                    continue;
                }
                int piece = stack.get(stack.size() - 1);
                Piece of = text.pieces.get(piece);
                Long v = law("fall", piece, strength[of.owner]);
                long percent = v != null ? v : curve + 10 * (stack.size() - 1) - of.weight;
                if (drawsOn(Math.max(0, Math.min(100, percent)))) {
                    remove(piece, 3);
                    bits += 1 << piece;
                }
            }
            return bits;
        }

        void steal() {
            for (int i = 0; i < state.length && !noTheft; i++) {
                int p = placeOf(i);
                if (p >= 0 && text.places.get(p).kind == 4) {
                    Long v = law("steal", i, strength[text.pieces.get(i).owner]);
                    if (drawsOn(v == null ? 10 : Math.max(0, Math.min(100, v)))) {
                        remove(i, 4);
                    }
                }
            }
        }

        void pass() {
            one(text.wait(stop));
            two();
            fall();
            steal();
            stop++;
        }

        Journey toEnd() {
            while (stop <= 20) {
                pass();
            }
            return this;
        }

        int turn(int place) {
            List<Integer> stack = stacks.get(place);
            List<Integer> sorted = new ArrayList<>(stack);
            sorted.sort((x, y) -> {
                int a = text.persons.get(text.pieces.get(x).owner).out;
                int b = text.persons.get(text.pieces.get(y).owner).out;
                return a != b ? b - a : y - x;
            });
            int changed = 0;
            for (int i = 0; i < stack.size(); i++) {
                changed += stack.get(i).equals(sorted.get(i)) ? 0 : 1;
            }
            stacks.set(place, sorted);
            return changed;
        }
    }

    // ---- the face

    private final List<Integer> tape = new ArrayList<>();
    private Text text = new Text();
    private Journey now = new Journey(text);
    private Journey image = null;
    private final List<Journey> before = new ArrayList<>();
    private final List<int[]> seen = new ArrayList<>();
    private int knownBy = -1;
    private int fault = 0;
    private int faultAt = -1;

    int feed(int a, int b, int c, int d, int e) {
        if (tape.size() > 680) {
            return -1;
        }
        for (int four : new int[] {a, b, c, d, e}) {
            for (int i = 3; i >= 0; i--) {
                tape.add(four >> 8 * i & 255);
            }
        }
        return tape.size();
    }

    int text(int n) {
        if (n < 0 || n > tape.size()) {
            return -2;
        }
        StringBuilder s = new StringBuilder();
        for (int i = 0; i < n; i++) {
            s.append((char) (int) tape.get(i));
        }
        tape.clear();
        fault = 0;
        faultAt = -1;
        try {
            text = new Parser(s.toString()).parse();
        } catch (Wrong e) {
            fault = e.fault;
            faultAt = e.at;
            return -1;
        }
        now = new Journey(text);
        now.drawn = true;
        image = null;
        before.clear();
        seen.clear();
        knownBy = -1;
        return text.lines;
    }

    int fault(int what) {
        return what == 0 ? fault : what == 1 ? faultAt : -1;
    }

    int named(int letters) {
        StringBuilder s = new StringBuilder();
        if (letters < 0 || letters >= 1 << 30) {
            return -1;
        }
        for (int i = 5; i >= 0; i--) {
            int five = letters >> 5 * i & 31;
            s.append(five == 0 ? ' ' : (char) ('a' + five - 1));
        }
        for (int i = 0; i < text.persons.size(); i++) {
            if ((text.persons.get(i).name + "      ").substring(0, 6).equals(s.toString())) {
                return i;
            }
        }
        return -1;
    }

    int person(int person, int what) {
        if (person < 0 || person >= text.persons.size()) {
            throw new IndexOutOfBoundsException();
        }
        if (what < 0 || what > 4) {
            throw new NoSuchElementException();
        }
        Person p = text.persons.get(person);
        return new int[] {p.in, p.out, now.strength[person], now.aboard[person], now.spent[person]}[what];
    }

    boolean isPiece(int i) {
        return i >= 0 && i < text.pieces.size();
    }

    boolean isPlace(int i) {
        return i >= 0 && i < text.places.size();
    }

    boolean isPerson(int i) {
        return i >= 0 && i < text.persons.size();
    }

    int piece(int i, int what) {
        if (!isPiece(i) || what < 0 || what > 5) {
            return -1;
        }
        Piece p = text.pieces.get(i);
        return new int[] {p.owner, p.weight, p.frail, now.state[i], now.placeOf(i), now.above(i)}[what];
    }

    int place(int i, int what) {
        if (!isPlace(i) || what < 0 || what > 4) {
            return -1;
        }
        List<Integer> stack = now.stacks.get(i);
        int top = stack.isEmpty() ? -1 : stack.get(stack.size() - 1);
        Place p = text.places.get(i);
        return new int[] {p.kind, p.holds, now.load(i), stack.size(), top}[what];
    }

    int waits(int stop) {
        return stop < 0 || stop > 20 ? -1 : text.wait(stop);
    }

    long law(int what, int piece) {
        if (what < 0 || what > 2 || !isPiece(piece)) {
            return Long.MIN_VALUE;
        }
        Long v = now.law(LAWS.get(what), piece, now.strength[text.pieces.get(piece).owner]);
        return v == null ? Long.MIN_VALUE : v;
    }

    void remember(Journey was) {
        before.add(was);
        if (before.size() > 20) {
            before.remove(0);
        }
    }

    boolean move(int piece, int place) {
        if (!isPiece(piece) || !isPlace(place) || now.placeOf(piece) < 0) {
            return false;
        }
        Journey was = new Journey(now);
        if (now.placeOf(piece) == place && now.above(piece) == 0) {
            return false;
        }
        if (now.placeOf(piece) != place && !now.holds(place, piece)) {
            return false;
        }
        now.stacks.get(now.placeOf(piece)).remove(Integer.valueOf(piece));
        now.stacks.get(place).add(piece);
        remember(was);
        return true;
    }

    int turn(int place) {
        if (!isPlace(place)) {
            return -1;
        }
        Journey was = new Journey(now);
        int changed = now.turn(place);
        if (changed > 0) {
            remember(was);
        }
        return changed;
    }

    boolean help(int person, int strength) {
        if (!isPerson(person) || strength < 1 || strength > 99 || now.strength[person] == strength) {
            return false;
        }
        remember(new Journey(now));
        now.strength[person] = strength;
        return true;
    }

    int go(int n) {
        if (n < 0 || n > 21 || now.stop + n > 21) {
            return -1;
        }
        now.drawn = true;
        for (int i = 0; i < n; i++) {
            now.pass();
            before.clear();
        }
        return now.stop;
    }

    List<Integer> coming() {
        List<Integer> list = new ArrayList<>();
        for (int i = 0; i < text.pieces.size(); i++) {
            if (text.persons.get(text.pieces.get(i).owner).in == now.stop) {
                list.add(i);
            }
        }
        return list;
    }

    /** As it goes with those choices; null, if one of these pieces finds no room. */
    Journey chosen(List<Integer> pieces, int[] places) {
        Journey j = new Journey(now);
        for (int i = 0; i < places.length; i++) {
            j.choice[pieces.get(i)] = places[i];
        }
        j.one(text.wait(j.stop));
        j.two();
        for (int piece : pieces) {
            if (j.state[piece] == 5) {
                return null;
            }
        }
        j.fall();
        j.steal();
        j.stop++;
        return j.toEnd();
    }

    int least(int what) {
        if (what < 0 || what > 4 || now.stop == 21) {
            return -1;
        }
        List<Integer> pieces = coming();
        if (pieces.size() > 4) {
            return -4;
        }
        int[] places = new int[pieces.size()];
        int[] best = null;
        int lifts = Integer.MAX_VALUE;
        while (text.places.size() > 0 || pieces.isEmpty()) {
            Journey j = chosen(pieces, places);
            if (j != null && j.lifts < lifts) {
                lifts = j.lifts;
                best = places.clone();
            }
            int i = places.length - 1;
            while (i >= 0 && places[i] == text.places.size() - 1) {
                places[i] = 0;
                i--;
            }
            if (i < 0) {
                break;
            }
            places[i]++;
        }
        if (best == null) {
            return -3;
        }
        return what == 0 ? lifts - now.lifts : what > best.length ? -2 : best[what - 1];
    }

    int mine(int piece, int what) {
        if (what < 0 || what > 3 || !coming().contains(piece)) {
            return -1;
        }
        int place = -2;
        int least = -2;
        for (int p = 0; p < text.places.size(); p++) {
            Journey j = chosen(Arrays.asList(piece), new int[] {p});
            if (j == null) {
                continue;
            }
            int cost = what < 2 ? j.spent[text.pieces.get(piece).owner] : j.lifts - now.lifts;
            if (place < 0 || cost < least) {
                place = p;
                least = cost;
            }
        }
        return what % 2 == 0 ? place : least;
    }

    int when(int place, int what) {
        if (!isPlace(place) || what < 0 || what > 1) {
            return -1;
        }
        int least = new Journey(now).toEnd().lifts;
        int answer = -2;
        for (int s = now.stop; s <= 19; s++) {
            Journey j = new Journey(now);
            while (j.stop < s) {
                j.pass();
            }
            int lying = j.stacks.get(place).size();
            j.turn(place);
            j.toEnd();
            if (j.lifts + lying < least) {
                least = j.lifts + lying;
                answer = what == 0 ? s : j.lifts - now.lifts;
            }
        }
        return answer;
    }

    List<Integer> allRests(int one, int other) {
        List<Integer> came = coming();
        if (!came.contains(one) || !came.contains(other) || one == other
                || text.pieces.get(one).owner == text.pieces.get(other).owner || text.places.isEmpty()) {
            return null;
        }
        int n = text.places.size();
        int[][][] cost = new int[n][n][2];
        for (int a = 0; a < n; a++) {
            for (int b = 0; b < n; b++) {
                Journey j = new Journey(now);
                j.choice[one] = a;
                j.choice[other] = b;
                j.toEnd();
                cost[a][b][0] = j.spent[text.pieces.get(one).owner] + (j.state[one] == 5 ? 999 : 0);
                cost[a][b][1] = j.spent[text.pieces.get(other).owner] + (j.state[other] == 5 ? 999 : 0);
            }
        }
        List<Integer> rests = new ArrayList<>();
        for (int a = 0; a < n; a++) {
            for (int b = 0; b < n; b++) {
                boolean rest = true;
                for (int c = 0; c < n; c++) {
                    rest &= cost[c][b][0] >= cost[a][b][0] && cost[a][c][1] >= cost[a][b][1];
                }
                if (rest) {
                    rests.add(10 * a + b);
                }
            }
        }
        return rests;
    }

    int rests(int one, int other) {
        List<Integer> rests = allRests(one, other);
        return rests == null ? -1 : rests.size();
    }

    int rest(int one, int other, int k) {
        List<Integer> rests = allRests(one, other);
        return rests == null || k < 0 ? -1 : k >= rests.size() ? -2 : rests.get(k);
    }

    int byRule(int rule) {
        if (rule < 0 || rule > 2) {
            return -1;
        }
        Journey j = new Journey(now);
        j.rule = rule;
        return j.toEnd().lifts - now.lifts;
    }

    int bestRule() {
        int best = 0;
        for (int rule = 1; rule < 3; rule++) {
            best = byRule(rule) < byRule(best) ? rule : best;
        }
        return best;
    }

    int missed(int what) {
        if (what < 0 || what > 1) {
            return -1;
        }
        Journey j = new Journey(now);
        while (j.stop <= 20) {
            Journey ahead = new Journey(j);
            Journey behind = new Journey(j);
            behind.one(text.wait(j.stop));
            for (int i = 0; i < text.persons.size(); i++) {
                if (text.persons.get(i).out == j.stop && behind.aboard[i] != 2) {
                    return what == 0 ? i : ahead.one(Long.MAX_VALUE) - text.wait(j.stop);
                }
            }
            j.pass();
        }
        return -2;
    }

    int falls() {
        if (now.stop == 21) {
            return 0;
        }
        Journey j = new Journey(now);
        j.one(text.wait(j.stop));
        j.two();
        return j.fall();
    }

    int asking() {
        int unasked = new Journey(now).toEnd().lifts;
        Journey j = new Journey(now);
        while (j.stop <= 20) {
            for (int p = 0; p < text.places.size(); p++) {
                if (text.places.get(p).kind < 2) {
                    j.turn(p);
                }
            }
            j.pass();
        }
        return Math.max(0, unasked - j.lifts);
    }

    int feet() {
        Journey j = new Journey(now);
        int sum = 0;
        while (j.stop <= 20) {
            Journey behind = new Journey(j);
            behind.one(text.wait(j.stop));
            behind.two();
            for (int p = 0; p < text.places.size(); p++) {
                sum += text.places.get(p).kind == 2 ? behind.stacks.get(p).size() : 0;
            }
            j.pass();
        }
        return sum;
    }

    int see(int stop, int piece, int place, boolean is) {
        if (stop < 0 || stop > 19 || !isPiece(piece) || !isPlace(place) || seen.size() == 24) {
            return -1;
        }
        seen.add(new int[] {stop, piece, place, is ? 1 : 0});
        return seen.size() - 1;
    }

    int strike(int which) {
        if (which < 0 || which >= seen.size() || seen.size() == 24) {
            return -1;
        }
        seen.add(new int[] {which});
        return seen.size() - 1;
    }

    boolean known(int n) {
        if (n < -1 || n > seen.size()) {
            return false;
        }
        knownBy = n;
        return true;
    }

    boolean struck(int which, int n) {
        for (int i = which + 1; i < n; i++) {
            if (seen.get(i).length == 1 && seen.get(i)[0] == which && !struck(i, n)) {
                return true;
            }
        }
        return false;
    }

    int got(int person) {
        if (!isPerson(person)) {
            return -1;
        }
        int bits = 0;
        for (int s = 0; s < text.persons.get(person).out; s++) {
            bits += agrees(person, s) ? 1 << s : 0;
        }
        return bits;
    }

    boolean agrees(int person, int in) {
        int n = knownBy < 0 ? seen.size() : knownBy;
        for (int i = 0; i < n; i++) {
            int[] fact = seen.get(i);
            if (fact.length == 1 || struck(i, n)) {
                continue;
            }
            Journey j = new Journey(text);
            j.enter[person] = in;
            while (j.stop < fact[0]) {
                j.pass();
            }
            j.one(text.wait(j.stop));
            j.two();
            if ((j.placeOf(fact[1]) == fact[2]) != (fact[3] == 1)) {
                return false;
            }
        }
        return true;
    }

    int chance(int seed, int piece) {
        if (seed < 0 || !isPiece(piece)) {
            return -1;
        }
        long last = seed;
        int times = 0;
        for (int i = 0; i < 10; i++) {
            Journey j = new Journey(now);
            j.drawn = true;
            j.last = last;
            j.toEnd();
            last = j.last;
            times += j.state[piece] == 2 ? 1 : 0;
        }
        return times;
    }

    int tried(int what, int i) {
        if (what < 0 || what > 4 || what == 2 && !isPerson(i) || what != 2 && i != 0) {
            return -1;
        }
        Journey j = new Journey(now);
        if (what == 0) {
            j.noFall = true;
        } else if (what == 1) {
            j.noTheft = true;
        } else if (what == 2) {
            for (int k = 0; k < j.state.length; k++) {
                if (text.pieces.get(k).owner == i && j.state[k] == 1) {
                    j.remove(k, 2);
                }
            }
            j.aboard[i] = 2;
        } else if (what == 3) {
            Arrays.fill(j.strength, 99);
        } else {
            j.curve = 0;
        }
        return j.toEnd().lifts - now.lifts;
    }

    int undo() {
        if (before.isEmpty()) {
            return -1;
        }
        now = before.remove(before.size() - 1);
        return before.size();
    }

    int keep() {
        image = new Journey(now);
        return now.stop;
    }

    int back() {
        if (image == null) {
            return -1;
        }
        now = new Journey(image);
        before.clear();
        return now.stop;
    }

    int count(int what) {
        int[] states = new int[6];
        for (int s : now.state) {
            states[s]++;
        }
        int aboard = 0;
        for (int a : now.aboard) {
            aboard += a == 1 ? 1 : 0;
        }
        int[] all = {text.places.size(), text.persons.size(), text.pieces.size(), text.knots, now.stop, now.lifts,
            states[1], states[2], states[3], states[4], states[5], aboard, new Journey(text).rule, seen.size(),
            knownBy < 0 ? seen.size() : knownBy, before.size()};
        return what < 0 || what >= all.length ? -1 : all[what];
    }
}
