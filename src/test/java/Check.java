import java.util.NoSuchElementException;
import java.util.function.Predicate;
import java.util.function.ToLongFunction;

/** What the tests share: texts onto the tape, answers compared, all that can be asked of an object as one line. */
final class Check {
    static final int NO_PERSON = -1000;
    static final int NO_WHAT = -2000;

    private static int wrong = 0;
    private static int promise = 0;

    private Check() {
    }

    static void promise(int number) {
        promise = number;
    }

    static void due(String what, long got, long want) {
        if (got != want) {
            wrong++;
            System.out.println("promise " + promise + ": " + what + " answered " + got + ", due is " + want);
        }
    }

    static void due(String what, boolean got, boolean want) {
        due(what, got ? 1 : 0, want ? 1 : 0);
    }

    static void same(String what, String got, String want) {
        if (!got.equals(want)) {
            wrong++;
            System.out.println("promise " + promise + ": " + what + ":\n  is  " + got + "\n  due " + want);
        }
    }

    /** The text on the tape, filled up with blanks; how many bytes the text itself has. */
    static int feed(RackTrain x, String text) {
        for (int i = 0; i < text.length(); i += 20) {
            int[] fours = new int[5];
            for (int k = 0; k < 20; k++) {
                char c = i + k < text.length() ? text.charAt(i + k) : ' ';
                fours[k / 4] = fours[k / 4] << 8 | c;
            }
            x.feed(fours[0], fours[1], fours[2], fours[3], fours[4]);
        }
        return text.length();
    }

    static int say(RackTrain x, String text) {
        return x.text(feed(x, text));
    }

    static RackTrain train(String text) {
        RackTrain x = new RackTrain();
        if (say(x, text) < 0) {
            wrong++;
            System.out.println("promise " + promise + ": fault " + x.fault(0) + " at " + x.fault(1) + " in " + text);
        }
        return x;
    }

    /** A train at a stop. */
    static RackTrain trainAt(int stop, String text) {
        RackTrain x = train(text);
        x.go(stop);
        return x;
    }

    static void lines(String text, int lines) {
        RackTrain x = new RackTrain();
        due("lines of " + text, say(x, text), lines);
        due("fault of " + text, x.fault(0), 0);
        due("place of no fault of " + text, x.fault(1), -1);
    }

    static void fault(String text, int fault, int at) {
        RackTrain x = new RackTrain();
        due("lines of " + text, say(x, text), -1);
        due("fault of " + text, x.fault(0), fault);
        due("place of the fault of " + text, x.fault(1), at);
    }

    static int person(RackTrain x, int person, int what) {
        try {
            return x.person(person, what);
        } catch (IndexOutOfBoundsException e) {
            return NO_PERSON;
        } catch (NoSuchElementException e) {
            return NO_WHAT;
        }
    }

    /** The next number of a journey, modulo 100; the row keeps the last one. */
    static int number(long[] last) {
        last[0] = (last[0] * 1103515245L + 12345L) % 2147483648L;
        return (int) (last[0] / 65536 % 100);
    }

    /** A call of an object that is refused with an answer: all stays as it was. */
    static void refused(RackTrain x, String what, ToLongFunction<RackTrain> call, long answer) {
        String ahead = all(x);
        due(what, call.applyAsLong(x), answer);
        same(what + " changes nothing", all(x), ahead);
    }

    /** The same of a call that answers with true or false. */
    static void refused(RackTrain x, String what, Predicate<RackTrain> call) {
        String ahead = all(x);
        due(what, call.test(x), false);
        same(what + " changes nothing", all(x), ahead);
    }

    /** All that can be asked of an object without a look ahead, and who got in by what was seen. */
    static String all(RackTrain x) {
        StringBuilder s = new StringBuilder("counts");
        for (int what = 0; what <= 15; what++) {
            s.append(' ').append(x.count(what));
        }
        s.append(" fault ").append(x.fault(0)).append(' ').append(x.fault(1)).append(" waits");
        for (int stop = 0; stop <= 20; stop++) {
            s.append(' ').append(x.waits(stop));
        }
        for (int i = 0; i < x.count(1); i++) {
            s.append(" person");
            for (int what = 0; what < 5; what++) {
                s.append(' ').append(person(x, i, what));
            }
            s.append(' ').append(x.got(i));
        }
        for (int i = 0; i < x.count(2); i++) {
            s.append(" piece");
            for (int what = 0; what < 6; what++) {
                s.append(' ').append(x.piece(i, what));
            }
            for (int what = 0; what < 3; what++) {
                s.append(' ').append(x.law(what, i));
            }
        }
        for (int i = 0; i < x.count(0); i++) {
            s.append(" place");
            for (int what = 0; what < 5; what++) {
                s.append(' ').append(x.place(i, what));
            }
        }
        return s.toString();
    }

    static void end() {
        if (wrong > 0) {
            System.out.println(wrong + " answers are not as due");
            System.exit(1);
        }
    }
}
