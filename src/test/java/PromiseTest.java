/** Each promise by its number; the answers that are due are worked out by hand from the document. */
public final class PromiseTest {
    private static final int MAX = Integer.MAX_VALUE;
    private static final int MIN = Integer.MIN_VALUE;

    /** Piece 0 lies under piece 1 of one who gets out later, if both go into the net. */
    private static final String TWO = "place net 100;place floor 100;person a 0 1 10;person b 0 2 10;"
            + "piece a 10 0;piece b 20 0;";
    /** One net; from the bottom up pieces 0 (out at 1), 1, 2, 3 (out at 2). */
    private static final String FOUR = "place net 999;person a 0 1 10;person b 0 2 10;"
            + "piece a 10 0;piece b 20 1;piece b 30 2;piece b 40 3;";

    /** At 1 a takes down piece 0, but has no time for piece 1; at 2 b, who got in at 1, takes down first. */
    private static final String LATE = "place seat 99;person b 1 2 10;person a 0 1 10;"
            + "piece a 10 0;piece a 10 0;piece b 10 0;wait 1 4;";

    public static void main(String[] args) {
        newObject();
        feed();
        text();
        fault();
        named();
        person();
        piece();
        place();
        waits();
        law();
        move();
        turn();
        help();
        go();
        takingDown();
        stowing();
        falling();
        stealing();
        least();
        mine();
        when();
        rests();
        rest();
        byRule();
        bestRule();
        missed();
        falls();
        asking();
        feet();
        see();
        strike();
        known();
        got();
        chance();
        tried();
        undo();
        keepAndBack();
        count();
        wild();
        Check.end();
    }

    private static void newObject() {
        Check.promise(1);
        RackTrain x = new RackTrain();
        for (int what = 0; what <= 15; what++) {
            Check.due("count " + what, x.count(what), 0);
        }
        Check.due("text(1) of an empty tape", x.text(1), -2);
        Check.due("text(0) of an empty tape", x.text(0), 0);
        Check.due("waits", x.waits(20), 60);
        Check.due("go", x.go(21), 21);
        Check.due("NONE", RackTrain.NONE, -1);
    }

    private static void feed() {
        Check.promise(2);
        RackTrain x = new RackTrain();
        for (int i = 1; i <= 35; i++) {
            Check.due("feed " + i, x.feed(0x20202020, 0x20202020, 0x20202020, 0x20202020, 0x20202020), 20 * i);
        }
        Check.due("feed beyond 700", x.feed(1, 1, 1, 1, 1), -1);
        Check.due("feed beyond 700 again", x.feed(1, 1, 1, 1, 1), -1);
        Check.due("text of more", x.text(701), -2);
        Check.due("text of all", x.text(700), 0);
        // "place net 7;" in the first three numbers, the highest byte first.
        Check.due("feed anew", x.feed(0x706c6163, 0x65206e65, 0x7420373b, MIN, -1), 20);
        Check.due("text of twelve bytes", x.text(12), 1);
        Check.due("holds", x.place(0, 1), 7);
        x.feed(0x20202020, 0x20202020, 0x20202020, 0x20202020, 0x202020ff);
        Check.due("text with byte 255", x.text(20), -1);
        Check.due("its place", x.fault(1), 19);
    }

    private static void text() {
        Check.promise(3);
        RackTrain x = Check.train(FOUR);
        x.go(1);
        x.keep();
        x.turn(0);
        x.see(0, 0, 0, true);
        x.known(0);
        Check.due("a wrong text", Check.say(x, "place"), -1);
        Check.due("the stop stays", x.count(4), 1);
        Check.due("seen stays", x.count(13), 1);
        Check.due("known stays", x.count(14), 0);
        Check.due("undo stays", x.count(15), 1);
        Check.due("pieces stay", x.count(6), 4);
        Check.due("the tape is empty with a fault", x.text(1), -2);
        Check.feed(x, "place net 5;");
        Check.due("text(-1)", x.text(-1), -2);
        Check.due("text(21)", x.text(21), -2);
        Check.due("text(MIN)", x.text(MIN), -2);
        Check.due("the tape stays with -2", x.text(12), 1);
        Check.due("the tape is empty then", x.text(1), -2);
        Check.due("stop", x.count(4), 0);
        Check.due("seen", x.count(13), 0);
        Check.due("known", x.count(14), 0);
        Check.due("undo", x.undo(), -1);
        Check.due("image", x.back(), -1);
        Check.due("places", x.count(0), 1);
        Check.due("persons", x.count(1), 0);
        Check.due("text of the first part", Check.feed(x, "place net 5;place net 6;"), 24);
        Check.due("its lines", x.text(12), 1);
        Check.due("the rest is gone", x.text(1), -2);
        Check.say(x, "rule last;wait 3 7;law lift 1;");
        Check.say(x, "");
        Check.due("rule of the next text", x.count(12), 0);
        Check.due("wait of the next text", x.waits(3), 60);
        Check.due("knots of the next text", x.count(3), 0);
        Check.say(x, "place net 9;person a 0 1 1;piece a 1 1;");
        x.see(0, 0, 0, false);
        Check.say(x, "place net 9;person a 0 1 1;piece a 1 1;");
        x.see(0, 0, 0, true);
        Check.due("all are known in a new text", x.got(0), 1);
    }

    private static void fault() {
        Check.promise(4);
        RackTrain x = new RackTrain();
        Check.due("fault 0 at first", x.fault(0), 0);
        Check.due("fault 1 at first", x.fault(1), -1);
        Check.say(x, "place net 5000;");
        Check.due("fault 0", x.fault(0), 2);
        Check.due("fault 1", x.fault(1), 10);
        x.text(5);
        Check.due("fault 0 behind -2", x.fault(0), 2);
        Check.due("fault 1 behind -2", x.fault(1), 10);
        Check.due("fault 2", x.fault(2), -1);
        Check.due("fault -1", x.fault(-1), -1);
        Check.say(x, "place net 50;");
        Check.due("fault 0 of a right one", x.fault(0), 0);
        Check.due("fault 1 of a right one", x.fault(1), -1);
    }

    private static int letters(String name) {
        int all = 0;
        for (int i = 0; i < 6; i++) {
            all = all << 5 | (i < name.length() ? name.charAt(i) - 'a' + 1 : 0);
        }
        return all;
    }

    private static void named() {
        Check.promise(5);
        RackTrain x = Check.train("person ann 0 1 1;person a 0 1 1;person zzzzzz 0 1 1;");
        Check.due("ann", x.named(letters("ann")), 0);
        Check.due("a", x.named(1 << 25), 1);
        Check.due("zzzzzz", x.named(letters("zzzzzz")), 2);
        Check.due("an", x.named(letters("an")), -1);
        Check.due("annn", x.named(letters("annn")), -1);
        Check.due("a at the right", x.named(1), -1);
        Check.due("0", x.named(0), -1);
        Check.due("-1", x.named(-1), -1);
        Check.due("a and a bit above", x.named(1 << 25 | 1 << 30), -1);
        Check.due("nobody there", new RackTrain().named(0), -1);
    }

    private static void person() {
        Check.promise(6);
        RackTrain x = Check.train("place net 99;person a 1 3 10;person b 0 20 99;piece a 25 0;");
        Check.due("in", Check.person(x, 0, 0), 1);
        Check.due("out", Check.person(x, 0, 1), 3);
        Check.due("strength", Check.person(x, 0, 2), 10);
        Check.due("to come", Check.person(x, 0, 3), 0);
        Check.due("seconds", Check.person(x, 0, 4), 0);
        Check.due("strength of b", Check.person(x, 1, 2), 99);
        x.go(2);
        Check.due("in the train", Check.person(x, 0, 3), 1);
        x.go(2);
        Check.due("out of it", Check.person(x, 0, 3), 2);
        Check.due("seconds then", Check.person(x, 0, 4), 3);
        Check.due("b is still in", Check.person(x, 1, 3), 1);
        Check.due("what 5", Check.person(x, 0, 5), Check.NO_WHAT);
        Check.due("what -1", Check.person(x, 0, -1), Check.NO_WHAT);
        Check.due("person 2", Check.person(x, 2, 0), Check.NO_PERSON);
        Check.due("person -1", Check.person(x, -1, 0), Check.NO_PERSON);
        Check.due("neither", Check.person(x, 2, 5), Check.NO_PERSON);
        Check.due("person MIN", Check.person(x, MIN, MAX), Check.NO_PERSON);
    }

    private static void piece() {
        Check.promise(7);
        RackTrain x = Check.train(TWO);
        int[] first = {0, 10, 0, 0, -1, 0};
        for (int what = 0; what < 6; what++) {
            Check.due("ahead, what " + what, x.piece(0, what), first[what]);
        }
        x.go(1);
        int[] lying = {0, 10, 0, 1, 0, 1};
        for (int what = 0; what < 6; what++) {
            Check.due("lying, what " + what, x.piece(0, what), lying[what]);
        }
        Check.due("above the upper one", x.piece(1, 5), 0);
        x.go(1);
        Check.due("out", x.piece(0, 3), 2);
        Check.due("out: in no place", x.piece(0, 4), -1);
        Check.due("out: none above", x.piece(0, 5), 0);
        Check.due("piece 2", x.piece(2, 0), -1);
        Check.due("piece -1", x.piece(-1, 0), -1);
        Check.due("what 6", x.piece(0, 6), -1);
        Check.due("what -1", x.piece(0, -1), -1);
        RackTrain none = Check.train("person a 0 1 1;piece a 1 7;");
        none.go(1);
        Check.due("left without places", none.piece(0, 3), 5);
        Check.due("frail", none.piece(0, 2), 7);
        Check.due("left: in no place", none.piece(0, 4), -1);
    }

    private static void place() {
        Check.promise(8);
        RackTrain x = Check.train(TWO);
        int[] empty = {0, 100, 0, 0, -1};
        int[] full = {0, 100, 30, 2, 1};
        for (int what = 0; what < 5; what++) {
            Check.due("empty, what " + what, x.place(0, what), empty[what]);
        }
        x.go(1);
        for (int what = 0; what < 5; what++) {
            Check.due("full, what " + what, x.place(0, what), full[what]);
        }
        Check.due("kind of the floor", x.place(1, 0), 2);
        Check.due("place 2", x.place(2, 0), -1);
        Check.due("place -1", x.place(-1, 0), -1);
        Check.due("what 5", x.place(0, 5), -1);
        Check.due("what -1", x.place(0, -1), -1);
        RackTrain kinds = Check.train("place net 1;place shelf 1;place floor 1;place seat 1;place hall 1;");
        for (int i = 0; i < 5; i++) {
            Check.due("kind " + i, kinds.place(i, 0), i);
        }
    }

    private static void waits() {
        Check.promise(9);
        RackTrain x = Check.train("wait 0 0;wait 19 999;wait 7 61;");
        Check.due("0", x.waits(0), 0);
        Check.due("7", x.waits(7), 61);
        Check.due("8", x.waits(8), 60);
        Check.due("19", x.waits(19), 999);
        Check.due("20", x.waits(20), 60);
        Check.due("21", x.waits(21), -1);
        Check.due("-1", x.waits(-1), -1);
    }

    private static void law() {
        Check.promise(10);
        String laws = "law lift 200+above;law fall 0-able*100-stop*10-kind;law steal 1/(bears-30);";
        RackTrain x = Check.train(TWO + laws);
        Check.due("ahead", x.law(0, 0), Long.MIN_VALUE);
        x.go(1);
        Check.due("lift isn't cut to 99", x.law(0, 0), 201);
        Check.due("lift of the upper one", x.law(0, 1), 200);
        x.help(0, 12);
        Check.due("fall", x.law(1, 0), -1210);
        Check.due("steal: an error", x.law(2, 0), Long.MIN_VALUE);
        x.move(1, 1);
        Check.due("steal", x.law(2, 0), 0);
        Check.due("fall on the floor", x.law(1, 1), -1012);
        Check.due("what 3", x.law(3, 0), Long.MIN_VALUE);
        Check.due("what -1", x.law(-1, 0), Long.MIN_VALUE);
        Check.due("piece 2", x.law(0, 2), Long.MIN_VALUE);
        Check.due("piece -1", x.law(0, -1), Long.MIN_VALUE);
        RackTrain y = Check.train(TWO);
        y.go(1);
        Check.due("no such law", y.law(0, 0), Long.MIN_VALUE);
    }

    private static void move() {
        Check.promise(11);
        RackTrain x = Check.train("place net 30;place floor 29;person a 0 9 10;piece a 10 0;piece a 20 0;piece a 1 0;");
        Check.due("to come", x.move(0, 0), false);
        x.go(1);
        Check.due("piece 2 lies on the floor", x.piece(2, 4), 1);
        Check.due("on top there", x.move(1, 0), false);
        Check.due("to the top of its own", x.move(0, 0), true);
        Check.due("nothing lies above it", x.piece(0, 5), 0);
        Check.due("the other one is under it", x.piece(1, 5), 1);
        Check.due("weight stays", x.place(0, 2), 30);
        Check.due("no room", x.move(2, 0), false);
        Check.due("there's room", x.move(1, 1), true);
        Check.due("weight", x.place(1, 2), 21);
        Check.due("left behind", x.place(0, 2), 10);
        Check.due("on top of the other", x.piece(2, 5), 1);
        Check.due("no room by two", x.move(0, 1), false);
        Check.due("no lift counts", x.count(5), 0);
        Check.due("piece 3", x.move(3, 0), false);
        Check.due("piece -1", x.move(-1, 0), false);
        Check.due("place 2", x.move(0, 2), false);
        Check.due("place -1", x.move(0, -1), false);
        x.go(9);
        Check.due("out", x.move(0, 0), false);
        RackTrain y = Check.train("place net 10;place floor 10;person a 0 9 10;piece a 10 0 1;");
        y.go(1);
        Check.due("just as much as it holds", y.move(0, 0), true);
    }

    private static void turn() {
        Check.promise(12);
        RackTrain x = Check.train(FOUR);
        Check.due("empty", x.turn(0), 0);
        x.go(1);
        // From the bottom up 0 1 2 3; then 3 2 1 0.
        Check.due("all change", x.turn(0), 4);
        Check.due("who gets out first is on top", x.place(0, 4), 0);
        Check.due("the lesser number is higher", x.piece(1, 5), 1);
        Check.due("then", x.piece(2, 5), 2);
        Check.due("at the bottom", x.piece(3, 5), 3);
        Check.due("none change", x.turn(0), 0);
        Check.due("place 1", x.turn(1), -1);
        Check.due("place -1", x.turn(-1), -1);
        RackTrain y = Check.train("place seat 999;person a 0 2 1;person b 0 1 1;piece a 1 0;piece a 1 0;piece b 1 0;");
        y.go(1);
        // From the bottom up 0 1 2; then 1 0 2.
        Check.due("two change", y.turn(0), 2);
        Check.due("above piece 0", y.piece(0, 5), 1);
        Check.due("above piece 1", y.piece(1, 5), 2);
    }

    private static void help() {
        Check.promise(13);
        RackTrain x = Check.train(TWO);
        Check.due("so it is", x.help(0, 10), false);
        Check.due("0", x.help(0, 0), false);
        Check.due("100", x.help(0, 100), false);
        Check.due("person 2", x.help(2, 5), false);
        Check.due("person -1", x.help(-1, 5), false);
        Check.due("99", x.help(0, 99), true);
        Check.due("strength", Check.person(x, 0, 2), 99);
        Check.due("1", x.help(1, 1), true);
        x.go(2);
        // 20 by 99 and 1, 10 by 99 and 1.
        Check.due("seconds of a", Check.person(x, 0, 4), 2);
        x.go(1);
        Check.due("seconds of b", Check.person(x, 1, 4), 21);
    }

    private static void go() {
        Check.promise(14);
        RackTrain x = Check.train(TWO);
        Check.due("22", x.go(22), -1);
        Check.due("-1", x.go(-1), -1);
        Check.due("MAX", x.go(MAX), -1);
        Check.due("0", x.go(0), 0);
        Check.due("nobody got in", x.count(11), 0);
        Check.due("1", x.go(1), 1);
        Check.due("two got in", x.count(11), 2);
        Check.due("21 is behind 21", x.go(21), -1);
        Check.due("none went by", x.count(4), 1);
        Check.due("20", x.go(20), 21);
        Check.due("0 at the end", x.go(0), 21);
        Check.due("1 at the end", x.go(1), -1);
        Check.due("21 at once", Check.train(TWO).go(21), 21);
    }

    /** Part (1) of a stop. */
    private static void takingDown() {
        Check.promise(14);
        RackTrain x = Check.train(TWO);
        x.go(2);
        // Piece 1 (20 by 10 and 1) is lifted, then piece 0 (10 by 10 and 1).
        Check.due("seconds with what lies above", Check.person(x, 0, 4), 5);
        Check.due("lifts", x.count(5), 1);
        Check.due("piece 1 stays", x.piece(1, 4), 0);
        RackTrain y = Check.train(FOUR + "wait 1 14;");
        // 2 + 3 + 4 + 5 = 14 for piece 0: just so many.
        y.go(2);
        Check.due("just in time", Check.person(y, 0, 3), 2);
        RackTrain z = Check.train(FOUR + "wait 1 13;wait 2 20;");
        z.go(2);
        Check.due("no time", Check.person(z, 0, 3), 1);
        Check.due("no seconds", Check.person(z, 0, 4), 0);
        Check.due("no lifts", z.count(5), 0);
        z.go(1);
        // At 2: piece 0 takes 14, then piece 1 would take 3 + 4 + 5: 26 are more than 20; pieces 2, 3 stay too.
        Check.due("who should have got out does", Check.person(z, 0, 3), 2);
        Check.due("piece 3 would fit, but is behind", z.piece(3, 3), 1);
        Check.due("b is late", Check.person(z, 1, 3), 1);
        Check.due("lifts at 2", z.count(5), 3);
        z.go(1);
        // At 3: 12 for piece 1, 9 for 2, 5 for 3, of 60.
        Check.due("b is out", Check.person(z, 1, 3), 2);
        Check.due("seconds of b", Check.person(z, 1, 4), 26);
        Check.due("lifts at 3", z.count(5), 6);
        RackTrain all = Check.train("place seat 999;person a 0 1 1;person b 0 1 9;person c 0 1 9;piece a 70 0;piece b 9 0;");
        all.go(2);
        // 70 by 1 and 1 is more than 60: a stays, and so does b's piece; c has none.
        Check.due("a stays", Check.person(all, 0, 3), 1);
        Check.due("b stays", Check.person(all, 1, 3), 1);
        Check.due("c is out", Check.person(all, 2, 3), 2);
        all.go(18);
        Check.due("a is still there", all.count(11), 2);
        all.go(1);
        Check.due("all get out at 20", all.count(11), 0);
        Check.due("what isn't taken down is left", all.count(10), 2);
        Check.due("nothing is in a place", all.place(0, 3), 0);
        RackTrain lifted = Check.train(TWO + "law lift heavy*above+able;");
        lifted.go(2);
        // Piece 1: 20*0 + 10, piece 0: 10*1 + 10, by the strength of a.
        Check.due("by the law", Check.person(lifted, 0, 4), 30);
        RackTrain most = Check.train(TWO + "law lift 1000;wait 1 198;");
        most.go(2);
        Check.due("99 at most each", Check.person(most, 0, 4), 198);
        RackTrain little = Check.train(TWO + "law lift 0-1000;wait 1 0;");
        little.go(2);
        Check.due("0 at least", Check.person(little, 0, 3), 2);
        RackTrain error = Check.train(TWO + "law lift 1/(heavy-20);");
        error.go(2);
        // Piece 1 is an error: 3; piece 0: 1/-10 = 0.
        Check.due("an error is as without", Check.person(error, 0, 4), 3);
        RackTrain weak = Check.train("place net 99;person a 0 1 1;piece a 99 0;wait 1 100;");
        weak.go(2);
        Check.due("99 by 1 and 1", Check.person(weak, 0, 4), 100);
    }

    /** Part (2) of a stop. */
    private static void stowing() {
        Check.promise(14);
        String places = "place seat 50;place floor 40;place floor 60;";
        String pieces = "person a 0 5 9;piece a 30 0;piece a 30 0;piece a 20 0;piece a 30 0;piece a 40 0;";
        int[] first = {0, 1, 0, 2, -1};
        int[] light = {0, 1, 2, 2, -1};
        int[] last = {2, 2, 1, 0, -1};
        stowed(places + pieces, first);
        stowed(places + pieces + "rule first;", first);
        stowed(places + pieces + "rule light;", light);
        stowed(places + pieces + "rule last;", last);
        String told = "person a 0 5 9;piece a 30 0 1;piece a 11 0 1;piece a 10 0 1;";
        stowed(places + told, new int[] {1, -1, 1});
        RackTrain x = Check.train("place seat 99;person a 3 5 9;person b 1 5 9;piece a 1 0;piece b 1 0;piece a 1 0;");
        x.go(3);
        Check.due("a isn't there", x.count(11), 1);
        x.go(1);
        Check.due("from the bottom up 1 0 2", x.piece(1, 5), 2);
        Check.due("then", x.piece(0, 5), 1);
        RackTrain y = Check.train("place seat 99;person a 0 5 9;person b 0 5 9;piece b 1 0;piece a 1 0;");
        y.go(1);
        Check.due("by persons, then pieces", y.place(0, 4), 0);
        RackTrain z = Check.train("place net 30;person a 0 1 30;person b 1 2 1;piece a 30 0;piece b 30 0;");
        z.go(2);
        Check.due("behind those who got out", z.piece(1, 4), 0);
    }

    private static void stowed(String text, int[] due) {
        RackTrain x = Check.train(text);
        x.go(1);
        for (int i = 0; i < due.length; i++) {
            Check.due("place of piece " + i + " in " + text, x.piece(i, 4), due[i]);
            Check.due("state of piece " + i + " in " + text, x.piece(i, 3), due[i] < 0 ? 5 : 1);
        }
    }

    /** Part (3) of a stop: what falls. */
    private static void falling() {
        Check.promise(14);
        String people = "place net 999;place shelf 999;place floor 999;person a 0 20 9;";
        String pieces = "piece a 1 0 0;piece a 1 0 0;piece a 1 0 1;piece a 1 0 2;";
        for (int seed = 0; seed < 40; seed++) {
            RackTrain x = Check.train(people + pieces + "law fall 50;seed " + seed + ";");
            long[] last = {seed};
            boolean upper = 50 > Check.number(last);
            boolean shelf = 50 > Check.number(last);
            x.go(1);
            Check.due("upper one, seed " + seed, x.piece(1, 3), upper ? 3 : 1);
            Check.due("lower one, seed " + seed, x.piece(0, 3), 1);
            Check.due("on the shelf, seed " + seed, x.piece(2, 3), shelf ? 3 : 1);
            Check.due("on the floor, seed " + seed, x.piece(3, 3), 1);
            Check.due("fallen, seed " + seed, x.count(8), (upper ? 1 : 0) + (shelf ? 1 : 0));
            boolean next = 50 > Check.number(last);
            x.go(1);
            Check.due("the numbers go on, seed " + seed, x.piece(upper ? 0 : 1, 3), next ? 3 : 1);
        }
        RackTrain all = Check.train(people + pieces + "law fall 1000;");
        all.go(1);
        Check.due("100 is above every number", all.count(8), 2);
        RackTrain none = Check.train(people + pieces + "curve 99;law fall 0-5;");
        none.go(20);
        Check.due("0 is above none", none.count(8), 0);
        // Without a law: curve 80 and 10 times 1 less 40 is 50, curve 80 less 31 is 49.
        RackTrain x = Check.train("place net 999;place shelf 99;person a 0 20 9;piece a 9 0;piece a 40 0;piece a 31 0 1;curve 80;");
        Check.due("50 falls as it goes, 49 doesn't", x.falls(), 2);
        RackTrain error = Check.train("place net 999;person a 0 20 9;piece a 9 0;curve 80;law fall 1/0;");
        Check.due("an error is as without", error.falls(), 1);
    }

    /** Part (3) of a stop: what is stolen. */
    private static void stealing() {
        Check.promise(14);
        String text = "place hall 999;place net 99;person a 0 20 9;piece a 1 0 0;piece a 1 0 1;piece a 1 0 0;";
        for (int seed = 0; seed < 40; seed++) {
            RackTrain x = Check.train(text + "law steal 60;law fall 60;seed " + seed + ";");
            long[] last = {seed};
            boolean falls = 60 > Check.number(last);
            boolean one = 60 > Check.number(last);
            boolean other = 60 > Check.number(last);
            x.go(1);
            Check.due("first what falls, seed " + seed, x.piece(1, 3), falls ? 3 : 1);
            Check.due("then the lower one in the hall, seed " + seed, x.piece(0, 3), one ? 4 : 1);
            Check.due("then the upper one, seed " + seed, x.piece(2, 3), other ? 4 : 1);
            Check.due("stolen, seed " + seed, x.count(9), (one ? 1 : 0) + (other ? 1 : 0));
        }
        for (int seed = 0; seed < 40; seed++) {
            RackTrain x = Check.train("place hall 9;person a 0 20 9;piece a 1 0;seed " + seed + ";");
            long[] last = {seed};
            boolean stolen = 10 > Check.number(last);
            x.go(1);
            Check.due("10 without a law, seed " + seed, x.count(9), stolen ? 1 : 0);
        }
    }

    private static void least() {
        Check.promise(15);
        RackTrain x = Check.train(TWO);
        Check.due("lifts", x.least(0), 0);
        Check.due("first", x.least(1), 0);
        Check.due("second", x.least(2), 1);
        Check.due("third", x.least(3), -2);
        Check.due("fourth", x.least(4), -2);
        Check.due("5", x.least(5), -1);
        Check.due("-1", x.least(-1), -1);
        Check.due("nothing is changed", x.count(4) + x.count(6), 0);
        x.go(1);
        Check.due("no piece comes: lifts as it goes", x.least(0), 1);
        Check.due("no piece comes", x.least(1), -2);
        x.go(20);
        Check.due("it is over", x.least(0), -1);
        RackTrain full = Check.train("place net 5;person a 0 1 1;piece a 6 0;");
        Check.due("it can't be", full.least(0), -3);
        Check.due("it can't be: place", full.least(1), -3);
        RackTrain both = Check.train("place net 10;place net 10;person a 0 1 1;piece a 6 0;piece a 6 0;");
        Check.due("each where there's room", both.least(1) * 10 + both.least(2), 1);
        RackTrain five = Check.train("place net 99;person a 0 1 1;" + "piece a 1 0;".repeat(5));
        Check.due("more than 4", five.least(0), -4);
        Check.due("more than 4: place", five.least(1), -4);
        RackTrain four = Check.train("place net 99;person a 0 1 1;" + "piece a 1 0;".repeat(4));
        // One on the other, taken down by numbers: 3 + 2 + 1.
        Check.due("four in one place", four.least(0), 6);
        RackTrain none = Check.train("person a 0 1 1;piece a 1 0;");
        Check.due("no places", none.least(0), -3);
        RackTrain later = Check.train("place net 30;place net 30;person a 0 1 30;person b 1 2 1;piece a 30 0;piece b 30 0;");
        later.go(1);
        Check.due("room behind (1)", later.least(1), 0);
        RackTrain late = Check.train(LATE);
        late.go(1);
        Check.due("(1) of this stop goes by once", late.least(0), 1);
    }

    private static void mine() {
        Check.promise(16);
        RackTrain x = Check.train(TWO);
        Check.due("place", x.mine(0, 0), 1);
        Check.due("seconds", x.mine(0, 1), 2);
        Check.due("place for all", x.mine(0, 2), 1);
        Check.due("lifts", x.mine(0, 3), 0);
        Check.due("place of the other: all alike", x.mine(1, 0), 0);
        Check.due("seconds of the other", x.mine(1, 1), 3);
        Check.due("place of the other for all", x.mine(1, 2), 1);
        Check.due("lifts by the other", x.mine(1, 3), 0);
        Check.due("what 4", x.mine(0, 4), -1);
        Check.due("what -1", x.mine(0, -1), -1);
        Check.due("piece 2", x.mine(2, 0), -1);
        Check.due("piece -1", x.mine(-1, 0), -1);
        x.go(1);
        Check.due("it came already", x.mine(0, 0), -1);
        RackTrain full = Check.train("place net 5;person a 0 1 1;person b 1 2 1;piece a 6 0;piece b 1 0;");
        Check.due("in none", full.mine(0, 0), -2);
        Check.due("in none: seconds", full.mine(0, 1), -2);
        Check.due("in none for all", full.mine(0, 2), -2);
        Check.due("in none: lifts", full.mine(0, 3), -2);
        Check.due("it comes later", full.mine(1, 0), -1);
        RackTrain theirs = Check.train("place net 9;place net 9;person a 0 1 1;piece a 5 0;piece a 4 0;");
        // Both in place 0: (5 + 1 + 4 + 1) + (4 + 1) = 16 seconds; apart 11: piece 1 in place 0 by first.
        Check.due("all of theirs count", theirs.mine(0, 0) * 100 + theirs.mine(0, 1), 111);
        RackTrain late = Check.train(LATE);
        late.go(1);
        Check.due("(1) of this stop goes by once", late.mine(2, 3), 1);
    }

    private static void when() {
        Check.promise(17);
        RackTrain x = Check.train(FOUR);
        // Without 3 + 2 + 1 = 6; turned ahead of stop 1: 0 and 4 pieces.
        Check.due("stop", x.when(0, 0), 1);
        Check.due("lifts", x.when(0, 1), 0);
        Check.due("what 2", x.when(0, 2), -1);
        Check.due("what -1", x.when(0, -1), -1);
        Check.due("place 1", x.when(1, 0), -1);
        Check.due("place -1", x.when(-1, 0), -1);
        x.go(1);
        Check.due("stop, asked at 1", x.when(0, 0), 1);
        x.go(1);
        // 2 + 1 = 3 lifts are no more than 3 pieces.
        Check.due("none", x.when(0, 0), -2);
        Check.due("none: lifts", x.when(0, 1), -2);
        x.go(19);
        Check.due("over", x.when(0, 0), -2);
        RackTrain y = Check.train(TWO);
        Check.due("2 pieces are more than 1 lift", y.when(0, 0), -2);
        Check.due("nothing on the floor", y.when(1, 0), -2);
        // From the bottom up 0 to 4, out at 19: 10 lifts; turned 0 and 5 pieces, first ahead of stop 1.
        RackTrain z = Check.train("place seat 99;person a 0 19 1;" + "piece a 1 0;".repeat(5));
        Check.due("the first of several", z.when(0, 0), 1);
        z.go(18);
        Check.due("from now on", z.when(0, 0), 18);
        z.go(1);
        Check.due("up to 19", z.when(0, 0), 19);
        RackTrain end = Check.train("place seat 99;person a 0 20 1;" + "piece a 1 0;".repeat(5));
        end.go(20);
        Check.due("not at 20", end.when(0, 0), -2);
    }

    private static void rests() {
        Check.promise(18);
        RackTrain x = Check.train(TWO + "piece a 1 0 1;person c 1 2 1;piece c 1 0;");
        Check.due("alike", x.rests(0, 0), -1);
        Check.due("of one person", x.rests(0, 2), -1);
        Check.due("comes later", x.rests(0, 3), -1);
        Check.due("comes later, first", x.rests(3, 0), -1);
        Check.due("piece 4", x.rests(0, 4), -1);
        Check.due("piece -1", x.rests(-1, 0), -1);
        RackTrain y = Check.train(TWO);
        Check.due("a would be alone, b doesn't care", y.rests(0, 1), 2);
        Check.due("the other way", y.rests(1, 0), 2);
        y.go(1);
        Check.due("they came already", y.rests(0, 1), -1);
        Check.due("no places", Check.train("person a 0 1 1;person b 0 1 1;piece a 1 0;piece b 1 0;").rests(0, 1), -1);
        // b is out first and wants to be alone, but lies on top; a is out later and never lifts: all four.
        RackTrain free = Check.train("place net 99;place net 99;person a 0 2 1;person b 0 1 1;piece a 1 0;piece b 1 0;");
        Check.due("all are rests", free.rests(0, 1), 4);
    }

    private static void rest() {
        Check.promise(19);
        RackTrain x = Check.train(TWO);
        Check.due("0", x.rest(0, 1, 0), 1);
        Check.due("1", x.rest(0, 1, 1), 10);
        Check.due("2", x.rest(0, 1, 2), -2);
        Check.due("MAX", x.rest(0, 1, MAX), -2);
        Check.due("-1", x.rest(0, 1, -1), -1);
        Check.due("alike", x.rest(0, 0, 0), -1);
        Check.due("piece 2", x.rest(0, 2, 0), -1);
        // Only place 1 holds them both; the second in place 0 would be left: 999 more.
        RackTrain y = Check.train("place net 10;place net 99;person a 0 2 1;person b 0 1 1;piece a 10 0;piece b 20 0;");
        Check.due("left is dearer", y.rests(0, 1), 2);
        Check.due("first", y.rest(0, 1, 0), 1);
        Check.due("second", y.rest(0, 1, 1), 11);
        Check.due("turned round", y.rest(1, 0, 0), 10);
        Check.due("turned round, second", y.rest(1, 0, 1), 11);
    }

    private static void byRule() {
        Check.promise(20);
        // first: 0 1 2 in place 0: 2 + 1 lifts. light: 0 | 1 | 2 on the lighter: 1 on 0. last: all in place 1.
        RackTrain x = Check.train("place seat 99;place seat 99;person a 0 1 1;piece a 9 0;piece a 10 0;piece a 1 0;");
        Check.due("first", x.byRule(0), 3);
        Check.due("light", x.byRule(1), 1);
        Check.due("last", x.byRule(2), 3);
        Check.due("3", x.byRule(3), -1);
        Check.due("-1", x.byRule(-1), -1);
        Check.due("the rule stays", x.count(12), 0);
        x.go(1);
        Check.due("they came already", x.byRule(1), 3);
        x.go(1);
        Check.due("from now on", x.byRule(0), 0);
        Check.due("lifts so far", x.count(5), 3);
        x.go(19);
        Check.due("over", x.byRule(0), 0);
    }

    private static void bestRule() {
        Check.promise(21);
        RackTrain x = Check.train("place seat 99;place seat 99;person a 0 1 1;piece a 9 0;piece a 10 0;piece a 1 0;");
        Check.due("light", x.bestRule(), 1);
        x.go(1);
        Check.due("all alike", x.bestRule(), 0);
        // first: 0 1 2 in place 0: 2 + 1 lifts; light and last: 1 and 2 in place 1: 1 lift.
        RackTrain y = Check.train("place seat 99;place seat 10;person a 0 1 1;piece a 9 0 0;piece a 5 0;piece a 5 0;rule last;");
        Check.due("first of several", y.bestRule(), 1);
        // first and light: 2 on 0; last: 2 on 1: one lift each.
        RackTrain z = Check.train("place seat 99;place seat 99;person a 0 1 1;person b 0 2 1;piece a 5 0 0;piece b 9 0 1;piece b 1 0;");
        Check.due("first and light", z.byRule(0) * 10 + z.byRule(1), 11);
        Check.due("last", z.byRule(2), 1);
        RackTrain last = Check.train("place seat 99;place seat 99;person a 0 1 1;person b 0 2 1;person c 0 1 9;piece a 5 0 0;"
                + "piece b 9 0 1;piece c 1 0;");
        // c's on a's is lifted by a, who is ahead of c; on b's it is not: only last puts it there.
        Check.due("only last", last.bestRule(), 2);
        last.go(21);
        Check.due("over", last.bestRule(), 0);
    }

    private static void missed() {
        Check.promise(22);
        RackTrain x = Check.train(FOUR + "wait 1 13;wait 2 20;");
        // At 1 piece 0 needs 14.
        Check.due("person", x.missed(0), 0);
        Check.due("seconds", x.missed(1), 1);
        Check.due("what 2", x.missed(2), -1);
        Check.due("what -1", x.missed(-1), -1);
        x.go(2);
        // At 2 a (14) and b (3 + 4 + 5, 4 + 5, 5) need 40.
        Check.due("person at 2", x.missed(0), 1);
        Check.due("seconds at 2", x.missed(1), 20);
        x.go(1);
        Check.due("b missed it already", x.missed(0), -2);
        Check.due("b missed it already: seconds", x.missed(1), -2);
        Check.due("nobody", Check.train(FOUR).missed(0), -2);
        Check.due("nobody at all", new RackTrain().missed(1), -2);
        RackTrain last = Check.train("place net 99;person a 0 20 1;piece a 70 0;");
        Check.due("all get out at 20", last.missed(0), -2);
        x.go(18);
        Check.due("over", x.missed(0), -2);
        RackTrain numbers = Check.train("place net 99;person a 0 3 9;person b 0 2 1;person c 0 2 1;piece c 9 0;piece b 9 0;wait 2 5;");
        // Both need 10 each, and c's lies below b's no more.
        Check.due("by stops, then numbers", numbers.missed(0), 1);
        Check.due("seconds of all", numbers.missed(1), 15 + 10);
    }

    private static void falls() {
        Check.promise(23);
        String places = "place net 99;place shelf 99;place floor 99;";
        RackTrain x = Check.train(places + "person a 0 9 9;person b 1 9 9;piece a 1 0 0;piece b 1 0 0;piece a 1 0 1;"
                + "piece a 1 0 2;curve 51;");
        Check.due("those on top in racks", x.falls(), 5);
        Check.due("nothing is changed", x.count(4), 0);
        RackTrain y = Check.train(places + "person a 0 9 9;piece a 1 0 0;piece a 1 0 0;law fall 50;seed 3;");
        Check.due("only the one on top", y.falls(), 2);
        RackTrain z = Check.train(places + "person a 0 9 9;piece a 1 0 0;law fall 49;");
        Check.due("49", z.falls(), 0);
        RackTrain out = Check.train(places + "person a 0 1 9;person b 1 2 9;piece a 9 0 0;piece b 9 0 1;law fall stop*50;");
        out.go(1);
        Check.due("behind (1) and (2)", out.falls(), 2);
        out.go(20);
        Check.due("over", out.falls(), 0);
    }

    private static void asking() {
        Check.promise(24);
        RackTrain x = Check.train(FOUR);
        Check.due("none is lifted", x.asking(), 6);
        x.go(2);
        Check.due("from now on", x.asking(), 3);
        x.go(19);
        Check.due("over", x.asking(), 0);
        RackTrain floor = Check.train("place floor 99;person a 0 1 1;person b 0 2 1;piece a 1 0;piece b 1 0;");
        Check.due("floors aren't turned", floor.asking(), 0);
        RackTrain shelf = Check.train("place shelf 99;person a 0 1 1;person b 0 2 1;piece a 1 0;piece b 1 0;");
        Check.due("shelves are", shelf.asking(), 1);
        // From the bottom up 0 (of b), 1 (of a): no lift. Turned, 0 lies on 1, but a takes down ahead of b.
        RackTrain worse = Check.train("place net 99;person a 1 3 9;person b 0 3 9;piece b 9 0;piece a 9 0;law fall 0;");
        Check.due("0 at least", worse.asking(), 0);
        worse.go(2);
        Check.due("turning", worse.turn(0), 2);
        Check.due("is worse", worse.byRule(0), 1);
    }

    private static void feet() {
        Check.promise(25);
        RackTrain x = Check.train("place floor 99;place net 99;place floor 99;person a 0 3 9;person b 1 2 9;person c 19 20 9;"
                + "piece a 1 0 0;piece b 1 0 2;piece b 1 0 1;piece c 1 0 0;");
        // Stop 0: 1, 1: 2, 2: 1, 3: 0, 19: 1, 20: 0.
        Check.due("from 0", x.feet(), 5);
        x.go(1);
        Check.due("from 1", x.feet(), 4);
        x.go(19);
        Check.due("from 20", x.feet(), 0);
        x.go(1);
        Check.due("over", x.feet(), 0);
    }

    private static void see() {
        Check.promise(26);
        RackTrain x = Check.train(TWO);
        Check.due("stop 20", x.see(20, 0, 0, true), -1);
        Check.due("stop -1", x.see(-1, 0, 0, true), -1);
        Check.due("piece 2", x.see(0, 2, 0, true), -1);
        Check.due("piece -1", x.see(0, -1, 0, true), -1);
        Check.due("place 2", x.see(0, 0, 2, true), -1);
        Check.due("place -1", x.see(0, 0, -1, true), -1);
        for (int i = 0; i < 24; i++) {
            Check.due("number", x.see(i % 20, i % 2, i / 2 % 2, i % 3 == 0), i);
        }
        Check.due("there are 24", x.see(0, 0, 0, true), -1);
        Check.due("a strike is one more", x.strike(0), -1);
        Check.due("all of them", x.count(13), 24);
        Check.due("they can't all be", x.got(0), 0);
    }

    private static void strike() {
        Check.promise(27);
        RackTrain x = Check.train("place net 99;person a 3 6 1;piece a 1 0;");
        Check.due("none seen", x.strike(0), -1);
        Check.due("seen 0", x.see(2, 0, 0, true), 0);
        Check.due("he was in at 2", x.got(0), 7);
        Check.due("a strike", x.strike(0), 1);
        Check.due("nothing is known", x.got(0), 63);
        Check.due("-1", x.strike(-1), -1);
        Check.due("itself", x.strike(2), -1);
        Check.due("the strike is struck", x.strike(1), 2);
        Check.due("it counts again", x.got(0), 7);
        Check.due("that one too", x.strike(2), 3);
        Check.due("it is struck again", x.got(0), 63);
        Check.due("seen 4", x.see(1, 0, 0, false), 4);
        Check.due("not at 1", x.got(0), 60);
        Check.due("struck once more", x.strike(0), 5);
        Check.due("the same", x.got(0), 60);
        Check.due("all count", x.count(13), 6);
    }

    private static void known() {
        Check.promise(28);
        RackTrain x = Check.train("place net 99;person a 3 6 1;piece a 1 0;");
        Check.due("1 of none", x.known(1), false);
        Check.due("0 of none", x.known(0), true);
        x.see(2, 0, 0, true);
        Check.due("by 0", x.got(0), 63);
        Check.due("count", x.count(14), 0);
        Check.due("-1", x.known(-1), true);
        Check.due("by all", x.got(0), 7);
        Check.due("count of all", x.count(14), 1);
        x.strike(0);
        x.strike(1);
        Check.due("by 2", x.known(2), true);
        Check.due("the strike counts", x.got(0), 63);
        Check.due("by 3", x.known(3), true);
        Check.due("the strike is struck", x.got(0), 7);
        x.strike(1);
        x.see(5, 0, 0, false);
        Check.due("later ones don't count", x.got(0), 7);
        Check.due("count stays", x.count(14), 3);
        Check.due("by 6", x.known(6), false);
        Check.due("by -2", x.known(-2), false);
        Check.due("by 3 still", x.count(14), 3);
        Check.due("by 5", x.known(5), true);
        Check.due("never in at 5", x.got(0), 0);
        Check.due("by all again", x.known(-1), true);
        x.strike(4);
        Check.due("also those to come", x.count(14), 6);
    }

    private static void got() {
        Check.promise(29);
        RackTrain x = Check.train("place net 10;place floor 10;person a 2 5 1;person b 3 20 1;piece a 6 0;piece b 6 0;");
        Check.due("nothing seen", x.got(0), 31);
        Check.due("nothing seen, b", x.got(1), (1 << 20) - 1);
        Check.due("person 2", x.got(2), -1);
        Check.due("person -1", x.got(-1), -1);
        x.see(4, 1, 0, true);
        // b lies in the net at 4: a got in behind b (4); for b: before a, or with a... a comes first at 2.
        Check.due("a got in later than b", x.got(0), 1 << 4);
        Check.due("b got in ahead of a", x.got(1), 3);
        x.go(4);
        x.help(0, 50);
        Check.due("asked from the text on", x.got(0), 1 << 4);
        x.see(19, 1, 1, false);
        Check.due("at 19", x.got(0), 1 << 4);
        x.see(0, 0, 0, true);
        Check.due("neither", x.got(0), 0);
        RackTrain falls = Check.train("place net 10;person a 0 9 1;piece a 1 0;law fall (stop=3)*100;");
        falls.see(4, 0, 0, true);
        Check.due("it fell behind 3", falls.got(0), 1 << 4);
        String fallAndSteal = "place net 10;place hall 10;person a 0 9 1;person b 0 9 1;piece a 1 0 0;piece b 1 0 1;"
                + "law fall 50;law steal 50;";
        for (int seed = 0; seed < 9; seed++) {
            RackTrain drawn = Check.train(fallAndSteal + "seed " + seed + ";");
            drawn.see(1, 0, 0, true);
            drawn.chance(5, 0);
            Check.due("as it goes, behind a chance", drawn.got(0), 2);
        }
        RackTrain asked = Check.train(fallAndSteal);
        asked.see(1, 0, 0, true);
        asked.tried(0, 0);
        Check.due("it falls, also if that was tried otherwise", asked.got(0), 2);
        asked.strike(0);
        asked.see(1, 1, 1, true);
        asked.tried(1, 0);
        Check.due("it is stolen, also if that was tried otherwise", asked.got(1), 2);
    }

    private static void chance() {
        Check.promise(30);
        String text = "place net 99;person a 0 2 9;piece a 1 0;";
        RackTrain x = Check.train(text + "law fall 30;");
        for (int seed : new int[] {0, 1, 2, 77, 99999, MAX}) {
            long[] last = {seed};
            int due = 0;
            for (int i = 0; i < 10; i++) {
                // One number on each of two stretches, as long as it lies there.
                boolean fell = 30 > Check.number(last) || 30 > Check.number(last);
                due += fell ? 0 : 1;
            }
            Check.due("seed " + seed, x.chance(seed, 0), due);
        }
        Check.due("seed -1", x.chance(-1, 0), -1);
        Check.due("seed MIN", x.chance(MIN, 0), -1);
        Check.due("piece 1", x.chance(0, 1), -1);
        Check.due("piece -1", x.chance(0, -1), -1);
        Check.due("nothing is changed", x.count(4), 0);
        Check.due("always", Check.train(text).chance(5, 0), 10);
        Check.due("never", Check.train(text + "law fall 100;").chance(5, 0), 0);
        RackTrain over = Check.train(text);
        over.go(21);
        Check.due("it was out", over.chance(5, 0), 10);
        RackTrain left = Check.train("person a 0 2 9;piece a 1 0;");
        Check.due("left", left.chance(5, 0), 0);
    }

    private static void tried() {
        Check.promise(31);
        RackTrain x = Check.train(FOUR);
        Check.due("nothing falls", x.tried(0, 0), 6);
        Check.due("nothing is stolen", x.tried(1, 0), 6);
        Check.due("a isn't there", x.tried(2, 0), 3);
        Check.due("b isn't there", x.tried(2, 1), 0);
        Check.due("strong", x.tried(3, 0), 6);
        Check.due("no curves", x.tried(4, 0), 6);
        Check.due("5", x.tried(5, 0), -1);
        Check.due("-1", x.tried(-1, 0), -1);
        Check.due("person 2", x.tried(2, 2), -1);
        Check.due("person -1", x.tried(2, -1), -1);
        Check.due("i 1 of 0", x.tried(0, 1), -1);
        Check.due("i -1 of 4", x.tried(4, -1), -1);
        x.go(1);
        Check.due("theirs are out now: a", x.tried(2, 0), 3);
        Check.due("theirs are out now: b", x.tried(2, 1), 0);
        Check.due("nothing is changed", x.count(6), 4);
        x.go(1);
        Check.due("a is out already", x.tried(2, 0), 3);
        Check.due("from now on", x.tried(3, 0), 3);
        RackTrain curve = Check.train(FOUR + "curve 99;");
        // Behind stop 0 piece 3 falls (99 + 30 - 40): 0 1 2 stay: 2 lifts; behind 1 from 1 2 falls 2.
        Check.due("as it goes", curve.byRule(0), 2);
        Check.due("without falling", curve.tried(0, 0), 6);
        Check.due("without curves", curve.tried(4, 0), 6);
        // The sixth piece: 0 and 50 less 1 is 49.
        RackTrain six = Check.train("place net 99;person a 0 2 9;" + "piece a 9 0;".repeat(5) + "piece a 1 0;curve 99;");
        Check.due("curves are just 0", six.tried(4, 0), 15);
        RackTrain law = Check.train(FOUR + "law fall 50*(stop=0);curve 99;");
        Check.due("a law doesn't ask for curves", law.tried(4, 0), 2 + 1);
        Check.due("without falling by a law", law.tried(0, 0), 6);
        RackTrain hall = Check.train("place hall 99;person a 0 1 9;person b 0 2 9;piece a 1 0;piece b 1 0;law steal 60;");
        Check.due("stolen as it goes", hall.byRule(0), 0);
        Check.due("without stealing", hall.tried(1, 0), 1);
        Check.due("without falling, stolen still", hall.tried(0, 0), 0);
        RackTrain weak = Check.train("place net 99;place net 99;person a 0 1 1;person b 0 20 9;piece a 70 0;piece b 20 0 0;"
                + "person c 1 19 9;piece c 9 0 0;");
        // a needs 21 + 71 seconds and never gets out but at 20: c lifts none; at 20 no time; b behind it.
        Check.due("too weak", weak.byRule(0), 0);
        // Strong a lifts b's at 1; c's lies on b's, but c is out ahead of b.
        Check.due("strong enough", weak.tried(3, 0), 1);
    }

    private static void undo() {
        Check.promise(32);
        RackTrain x = Check.train(TWO);
        Check.due("none", x.undo(), -1);
        x.help(0, 20);
        Check.due("help undone", x.undo(), 0);
        Check.due("strength", Check.person(x, 0, 2), 10);
        x.go(1);
        x.help(1, 7);
        x.move(0, 0);
        x.move(1, 1);
        x.turn(0);
        Check.due("a turn of nothing isn't there", x.count(15), 3);
        x.move(5, 5);
        Check.due("nor is a wrong move", x.count(15), 3);
        Check.due("move undone", x.undo(), 2);
        Check.due("back in its place", x.piece(1, 4), 0);
        Check.due("at the bottom", x.piece(1, 5), 1);
        Check.due("weight", x.place(0, 2), 30);
        Check.due("weight of the other", x.place(1, 2), 0);
        Check.due("move undone again", x.undo(), 1);
        Check.due("piece 0 at the bottom", x.piece(0, 5), 1);
        Check.due("help undone again", x.undo(), 0);
        Check.due("none again", x.undo(), -1);
        x.turn(0);
        Check.due("turned", x.piece(0, 5), 0);
        x.go(0);
        Check.due("no stop went by", x.undo(), 0);
        Check.due("turn undone", x.piece(0, 5), 1);
        x.turn(0);
        x.go(1);
        Check.due("a stop went by", x.undo(), -1);
        RackTrain many = Check.train(FOUR);
        many.go(1);
        for (int i = 1; i <= 25; i++) {
            many.help(0, 20 + i);
            Check.due("20 at most", many.count(15), Math.min(i, 20));
        }
        Check.due("a turn", many.turn(0), 4);
        Check.due("a turn of nothing", many.turn(0), 0);
        for (int i = 19; i >= 0; i--) {
            Check.due("undone", many.undo(), i);
        }
        Check.due("no more", many.undo(), -1);
        Check.due("as far as that", Check.person(many, 0, 2), 26);
        Check.due("the turn is undone", many.piece(0, 5), 3);
    }

    private static void keepAndBack() {
        Check.promise(33);
        RackTrain x = Check.train(FOUR + "law fall (stop=3)*50;seed 7;");
        Check.promise(34);
        Check.due("no image", x.back(), -1);
        Check.promise(33);
        x.go(1);
        x.help(1, 30);
        Check.due("keep", x.keep(), 1);
        Check.due("undo stays", x.count(15), 1);
        x.see(0, 0, 0, true);
        x.turn(0);
        x.help(0, 99);
        x.go(2);
        Check.promise(34);
        Check.due("lifts ahead", x.count(5), 0);
        Check.due("back", x.back(), 1);
        Check.due("stop", x.count(4), 1);
        Check.due("strength of a", Check.person(x, 0, 2), 10);
        Check.due("strength of b", Check.person(x, 1, 2), 30);
        Check.due("spent", Check.person(x, 0, 4), 0);
        Check.due("aboard", x.count(11), 2);
        Check.due("stack", x.piece(0, 5), 3);
        Check.due("pieces", x.count(6), 4);
        Check.due("what was seen stays", x.count(13), 1);
        Check.due("nothing to undo", x.undo(), -1);
        x.go(1);
        Check.due("lifts", x.count(5), 3);
        Check.due("back once more", x.back(), 1);
        Check.due("lifts again", x.count(5), 0);
        x.go(3);
        Check.promise(33);
        Check.due("keep in place of it", x.keep(), 4);
        x.go(5);
        Check.promise(34);
        Check.due("back to that", x.back(), 4);
        x.go(17);
        Check.due("back from the end", x.back(), 4);
        Check.promise(33);
        x.go(17);
        Check.due("keep at the end", x.keep(), 21);
        RackTrain numbers = Check.train("place net 99;person a 0 20 9;piece a 1 0;piece a 1 0;piece a 1 0;law fall 40;seed 5;");
        Check.promise(34);
        numbers.keep();
        numbers.go(3);
        int fallen = numbers.count(8);
        numbers.back();
        numbers.go(3);
        Check.due("the numbers are kept too", numbers.count(8), fallen);
    }

    private static void count() {
        Check.promise(35);
        RackTrain x = Check.train("place net 50;place hall 99;place floor 20;person a 0 2 9;person b 1 4 9;person c 0 9 9;person d 9 10 9;"
                + "piece a 9 0 0;piece b 9 0 0;piece c 9 0 1;piece c 30 0 2;piece c 9 0 2;rule last;"
                + "law steal 100*(stop=1);law fall (stop=1)*100;");
        x.go(2);
        x.help(0, 10);
        x.see(0, 0, 0, true);
        x.strike(0);
        x.known(1);
        // Piece 1 fell behind 1, piece 2 was stolen, piece 3 was left.
        int[] due = {3, 4, 5, 10, 2, 0, 2, 0, 1, 1, 1, 3, 2, 2, 1, 1};
        for (int what = 0; what <= 15; what++) {
            Check.due("count " + what, x.count(what), due[what]);
        }
        x.go(1);
        Check.due("out", x.count(7), 1);
        Check.due("in the train", x.count(11), 2);
        Check.due("16", x.count(16), -1);
        Check.due("-1", x.count(-1), -1);
        RackTrain lifts = Check.train(FOUR);
        lifts.go(3);
        Check.due("lifts", lifts.count(5), 6);
    }

    /** No call ever throws by itself, whatever its arguments are. */
    private static void wild() {
        Check.promise(0);
        int[] some = {MIN, -3, -2, -1, 0, 1, 2, 3, 4, 5, 6, 9, 10, 20, 21, 22, 99, MAX};
        RackTrain x = Check.train(FOUR);
        for (int stops = 0; stops < 3; stops++) {
            for (int a : some) {
                x.named(a);
                x.waits(a);
                x.fault(a);
                x.turn(a);
                x.least(a);
                x.byRule(a);
                x.missed(a);
                x.strike(a);
                x.known(a);
                x.got(a);
                x.count(a);
                for (int b : some) {
                    Check.person(x, a, b);
                    x.piece(a, b);
                    x.place(a, b);
                    x.law(a, b);
                    x.move(a, b);
                    x.help(a, b);
                    x.mine(a, b);
                    x.when(a, b);
                    x.rests(a, b);
                    x.rest(a, b, a);
                    x.chance(a, b);
                    x.tried(a, b);
                    x.see(a, b, a, true);
                }
            }
            x.go(10);
        }
        Check.due("still there", x.count(4), 20);
    }
}
