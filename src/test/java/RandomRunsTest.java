import java.util.NoSuchElementException;
import java.util.Random;

/** Random texts and calls, ordinary and wild, asked of the class and of the model: every answer must be the same. */
public final class RandomRunsTest {
    private static final int RUNS = 2500;
    private static final int CALLS = 180;
    private static final String[] LINE_WORDS = {"place", "person", "piece", "wait", "rule", "curve", "seed", "law"};
    private static final String[] LAW_WORDS = {"lift", "fall", "steal"};
    private static final String[] SIGNS = {"+", "-", "*", "/", "<", "<=", "=", "<>", ">=", ">", "and", "or"};
    private static final String[] STRAY = {";", "(", ")", "not", "and", "0", "99999", "net", "hall", "abcdefg", "zz",
        "<", ">", "=", "#", "A", "-", "\n", "\t", "first", "lift", "\u00e9", "12345678901234567890"};

    private final Random random;
    private final RackTrain real = new RackTrain();
    private final Model model = new Model();
    private final StringBuilder told = new StringBuilder();
    private final int favourite;

    private RandomRunsTest(long seed) {
        random = new Random(seed);
        favourite = random.nextInt(26);
    }

    public static void main(String[] args) {
        int from = args.length > 0 ? Integer.parseInt(args[0]) : 0;
        int runs = args.length > 1 ? Integer.parseInt(args[1]) : RUNS;
        int wrong = 0;
        for (int run = from; run < from + runs && wrong < 5; run++) {
            if (!new RandomRunsTest(run).run()) {
                System.out.println("random run " + run + " differs");
                wrong++;
            }
        }
        if (wrong > 0) {
            System.exit(1);
        }
    }

    private boolean run() {
        for (int i = 0; i < CALLS; i++) {
            boolean same = i % 60 == 0 ? newText() : oneCall();
            if (!same) {
                System.out.println(told);
                return false;
            }
        }
        return true;
    }

    private int upTo(int n) {
        return random.nextInt(n);
    }

    private boolean oneIn(int n) {
        return random.nextInt(n) == 0;
    }

    private String pick(String[] words) {
        return words[upTo(words.length)];
    }

    // ---- texts

    private boolean newText() {
        String text = oneIn(4) ? spoilt(someText()) : someText();
        if (text.length() > 700) {
            text = text.substring(0, text.lastIndexOf(';', 699) + 1);
        }
        told.append("\nTEXT ").append(text).append('\n');
        int n = text.length();
        StringBuilder padded = new StringBuilder(text);
        while (padded.length() % 20 != 0) {
            padded.append(' ');
        }
        for (int i = 0; i < padded.length(); i += 20) {
            int[] f = new int[5];
            for (int k = 0; k < 20; k++) {
                f[k / 4] = f[k / 4] << 8 | padded.charAt(i + k);
            }
            if (!same("feed", real.feed(f[0], f[1], f[2], f[3], f[4]), model.feed(f[0], f[1], f[2], f[3], f[4]))) {
                return false;
            }
        }
        boolean same = same("text", real.text(n), model.text(n)) && same("fault 0", real.fault(0), model.fault(0))
                && same("fault 1", real.fault(1), model.fault(1)) && everything();
        int ahead = oneIn(2) ? 0 : 1 + upTo(3);
        return same && same("go " + ahead, real.go(ahead), model.go(ahead)) && everything();
    }

    private String someText() {
        StringBuilder s = new StringBuilder();
        int places = upTo(6);
        int persons = upTo(7);
        int pieces = persons == 0 ? 0 : upTo(11);
        int stops = 2 + upTo(oneIn(3) ? 19 : 5);
        for (int i = 0; i < places; i++) {
            s.append("place ").append(Model.KINDS.get(oneIn(2) ? upTo(2) : upTo(5))).append(' ');
            s.append(oneIn(3) ? 999 : oneIn(8) ? 0 : 20 + upTo(150)).append(';');
        }
        for (int i = 0; i < persons; i++) {
            int in = oneIn(2) ? 0 : upTo(stops);
            int out = Math.min(20, in + 1 + upTo(stops));
            s.append("person ").append(name(i)).append(' ').append(Math.min(19, in)).append(' ').append(out);
            s.append(' ').append(1 + upTo(oneIn(2) ? 99 : 20)).append(";\n");
        }
        for (int i = 0; i < pieces; i++) {
            s.append("piece ").append(name(upTo(persons))).append(' ').append(1 + upTo(oneIn(2) ? 99 : 30));
            s.append(' ').append(upTo(10));
            if (places > 0 && oneIn(4)) {
                s.append(' ').append(upTo(places));
            }
            s.append(';');
        }
        boolean[] waits = new boolean[20];
        for (int i = upTo(8); i > 0; i--) {
            int stop = upTo(20);
            if (!waits[stop]) {
                waits[stop] = true;
                s.append("wait ").append(stop).append(' ').append(upTo(oneIn(3) ? 999 : 30)).append(';');
            }
        }
        s.append(oneIn(3) ? "" : "rule " + Model.RULES.get(upTo(3)) + ";");
        s.append(oneIn(3) ? "" : "curve " + upTo(100) + ";");
        s.append(oneIn(3) ? "" : "seed " + upTo(100000) + ";");
        for (String law : LAW_WORDS) {
            if (oneIn(3)) {
                s.append("law ").append(law).append(' ').append(formula(3)).append(';');
            }
        }
        return s.toString();
    }

    private static String name(int i) {
        return new String[] {"a", "bob", "zzzzzz", "cc", "ab", "heavyy"}[i];
    }

    private String formula(int depth) {
        if (depth == 0 || oneIn(4)) {
            return oneIn(2) ? Model.NAMES.get(upTo(7)) : "" + (oneIn(4) ? 9999 : upTo(60));
        }
        if (oneIn(6)) {
            return "(not " + formula(depth - 1) + ")";
        }
        String left = formula(depth - 1);
        String right = formula(depth - 1);
        String joined = left + " " + pick(SIGNS) + " " + right;
        return oneIn(2) ? "(" + joined + ")" : joined;
    }

    private String spoilt(String text) {
        StringBuilder s = new StringBuilder(text);
        for (int i = 1 + upTo(2); i > 0; i--) {
            int at = upTo(s.length() + 1);
            int kind = oneIn(2) ? 4 : upTo(4);
            if (kind == 0 && at < s.length()) {
                s.deleteCharAt(at);
            } else if (kind == 1) {
                s.insert(at, pick(STRAY));
            } else if (kind == 2) {
                s.insert(at, ' ' + pick(STRAY) + ' ');
            } else if (kind == 3) {
                s.setLength(at);
            } else {
                s.insert(s.indexOf(";", at) < 0 ? s.length() : s.indexOf(";", at) + 1, lineAgain());
            }
        }
        return s.toString();
    }

    private String lineAgain() {
        switch (upTo(6)) {
            case 0:
                return "wait " + upTo(22) + " " + upTo(1100) + ";";
            case 1:
                return pick(LINE_WORDS) + " 5;";
            case 2:
                return "place net 5;place hall 9;place seat 9;";
            case 3:
                return "person " + name(upTo(6)) + " " + upTo(22) + " " + upTo(22) + " " + upTo(101) + ";";
            case 4:
                return "piece " + name(upTo(6)) + " " + upTo(101) + " " + upTo(11) + " " + upTo(7) + ";";
            default:
                return "law " + pick(LAW_WORDS) + " " + formula(4) + ";";
        }
    }

    // ---- calls

    private int argument(int size) {
        if (oneIn(12)) {
            return new int[] {-1, -2, size, size + 1, Integer.MAX_VALUE, Integer.MIN_VALUE}[upTo(6)];
        }
        return size <= 0 ? 0 : upTo(size);
    }

    private int place() {
        return argument(model.count(0));
    }

    private int person() {
        return argument(model.count(1));
    }

    private int piece() {
        return argument(model.count(2));
    }

    private boolean oneCall() {
        // Each run leans on one kind of call, so that limits such as twenty changes are reached.
        int which = oneIn(3) ? favourite : upTo(26);
        if (which < 5) {
            return change(which);
        }
        if (which < 9) {
            return ask(which);
        }
        return which < 13 ? seeing(which) : foresee(which);
    }

    private boolean change(int which) {
        int a = piece();
        int b = place();
        int c = person();
        int s = argument(100);
        switch (which) {
            case 0:
                return same("move " + a + " " + b, real.move(a, b), model.move(a, b)) && everything();
            case 1:
                return same("turn " + b, real.turn(b), model.turn(b)) && everything();
            case 2:
                return same("help " + c + " " + s, real.help(c, s), model.help(c, s)) && everything();
            case 3:
                int n = oneIn(10) ? argument(22) : favourite == 3 ? upTo(2) : 1 + upTo(2);
                return same("go " + n, real.go(n), model.go(n)) && everything();
            default:
                if (oneIn(2)) {
                    return same("undo", real.undo(), model.undo()) && everything();
                }
                return oneIn(2) ? same("keep", real.keep(), model.keep())
                        : same("back", real.back(), model.back()) && everything();
        }
    }

    private boolean ask(int which) {
        int a = piece();
        int c = person();
        switch (which) {
            case 5:
                int w = argument(3);
                return same("law " + w + " " + a, real.law(w, a), model.law(w, a));
            case 6:
                int letters = oneIn(3) ? random.nextInt() : (1 + upTo(26)) << 25 | (oneIn(2) ? 15 << 20 | 2 << 15 : 0);
                return same("named " + letters, real.named(letters), model.named(letters));
            case 7:
                int s = argument(21);
                return same("waits " + s, real.waits(s), model.waits(s));
            default:
                int what = argument(5);
                return same("person " + c + " " + what, realPerson(c, what), modelPerson(c, what));
        }
    }

    private boolean seeing(int which) {
        switch (which) {
            case 9:
                int s = argument(20);
                int a = piece();
                int b = place();
                boolean is = oneIn(2);
                return same("see " + s + " " + a + " " + b + " " + is, real.see(s, a, b, is), model.see(s, a, b, is));
            case 10:
                int n = argument(model.count(13));
                return same("strike " + n, real.strike(n), model.strike(n));
            case 11:
                int k = oneIn(2) ? -1 : argument(model.count(13) + 1);
                return same("known " + k, real.known(k), model.known(k));
            default:
                int c = person();
                return same("got " + c, real.got(c), model.got(c));
        }
    }

    private boolean foresee(int which) {
        int a = piece();
        int w;
        switch (which) {
            case 13:
                w = argument(5);
                return same("least " + w, real.least(w), model.least(w));
            case 14:
            case 15:
                w = argument(4);
                return same("mine " + a + " " + w, real.mine(a, w), model.mine(a, w));
            case 16:
                int p = place();
                w = argument(2);
                return same("when " + p + " " + w, real.when(p, w), model.when(p, w));
            case 17:
            case 18:
                int b = piece();
                int k = argument(4);
                return same("rests " + a + " " + b, real.rests(a, b), model.rests(a, b))
                        && same("rest " + a + " " + b + " " + k, real.rest(a, b, k), model.rest(a, b, k));
            case 19:
                w = argument(3);
                return same("byRule " + w, real.byRule(w), model.byRule(w))
                        && same("bestRule", real.bestRule(), model.bestRule());
            case 20:
                w = argument(2);
                return same("missed " + w, real.missed(w), model.missed(w));
            case 21:
                return same("falls", real.falls(), model.falls());
            case 22:
                return same("asking", real.asking(), model.asking());
            case 23:
                return same("feet", real.feet(), model.feet());
            case 24:
                int seed = oneIn(6) ? random.nextInt() : upTo(1000);
                return same("chance " + seed + " " + a, real.chance(seed, a), model.chance(seed, a));
            default:
                w = argument(5);
                int i = w == 2 ? person() : argument(1);
                return same("tried " + w + " " + i, real.tried(w, i), model.tried(w, i));
        }
    }

    /** All that can be asked about what is now. */
    private boolean everything() {
        boolean same = true;
        for (int i = -1; i <= 16; i++) {
            same &= same("count " + i, real.count(i), model.count(i));
        }
        for (int i = -1; i <= 10; i++) {
            for (int what = -1; what <= 6; what++) {
                same &= same("piece " + i + " " + what, real.piece(i, what), model.piece(i, what));
                if (i <= 6) {
                    same &= same("person " + i + " " + what, realPerson(i, what), modelPerson(i, what));
                    same &= same("place " + i + " " + what, real.place(i, what), model.place(i, what));
                }
            }
        }
        return same;
    }

    private long realPerson(int person, int what) {
        try {
            return real.person(person, what);
        } catch (IndexOutOfBoundsException e) {
            return -1000;
        } catch (NoSuchElementException e) {
            return -2000;
        }
    }

    private long modelPerson(int person, int what) {
        try {
            return model.person(person, what);
        } catch (IndexOutOfBoundsException e) {
            return -1000;
        } catch (NoSuchElementException e) {
            return -2000;
        }
    }

    private boolean same(String call, boolean got, boolean due) {
        return same(call, got ? 1 : 0, due ? 1 : 0);
    }

    private boolean same(String call, long got, long due) {
        if (!call.startsWith("count") && !call.startsWith("piece") && !call.startsWith("place")
                && !call.startsWith("person") || got != due) {
            told.append(call).append(" -> ").append(got).append(got == due ? "" : ", by the model " + due).append('\n');
        }
        return got == due;
    }
}
