/** Where a journey has its limits (part 2 of the terms), and promises 6 to 14: a method for each sentence. */
final class JourneyBounds {
    private static final int MAX = Integer.MAX_VALUE;
    private static final int MIN = Integer.MIN_VALUE;
    private static final long NO_VALUE = Long.MIN_VALUE;
    /** 10 to the 12. */
    private static final String MOST = "(1000*1000*1000*1000)";

    private final Sentences sentences;

    JourneyBounds(Sentences sentences) {
        this.sentences = sentences;
    }

    void run() {
        states();
        lifting();
        takingDown();
        atAStop();
        gettingOut();
        stowing();
        falling();
        stealing();
        nextStop();
        names();
        values();
        errors();
        numbers();
        asItGoes();
        person();
        wrongPersons();
        piece();
        place();
        waits();
        law();
        move();
        turn();
        help();
        go();
    }

    private static String times(String s, int n) {
        return s.repeat(n);
    }

    // ---- part 2 of the terms

    private void states() {
        sentences.about(7, "A PIECE is to COME, in a PLACE, OUT, FALLEN, STOLEN or LEFT behind. What is in a PLACE lies one on the other.");
        RackTrain x = Check.trainAt(2, "place net 50;place hall 50;place seat 10;person a 0 1 9;person b 0 9 9;person c 5 9 9;"
                + "piece c 1 0;piece b 10 0 2;piece a 1 0 2;piece a 10 0 2;piece b 1 0 0;piece b 1 0 1;piece b 11 0 2;"
                + "law fall 100;law steal 100;");
        // a: piece 2 and 3 would be 11 in what holds 10, so piece 3 is LEFT; b: piece 1 has no room at all then.
        int[] due = {0, 5, 2, 5, 3, 4, 5};
        for (int i = 0; i < due.length; i++) {
            Check.due("state of " + i, x.piece(i, 3), due[i]);
        }
        RackTrain stack = Check.trainAt(1, "place seat 999;person a 0 9 9;" + times("piece a 99 0;", 10));
        for (int i = 0; i < 10; i++) {
            Check.due("above " + i, stack.piece(i, 5), 9 - i);
        }
        Check.due("on top", stack.place(0, 4), 9);
        Check.due("to come: none", Check.train("").count(6), 0);
    }

    /** SECONDS that one with a strength spends at stop 1 for his only piece of a weight. */
    private static int spent(int weight, int strength, String more) {
        RackTrain x = Check.trainAt(2, "place seat 99;person a 0 1 " + strength + ";piece a " + weight + " 0;" + more);
        return Check.person(x, 0, 3) == 2 ? Check.person(x, 0, 4) : -1;
    }

    private void lifting() {
        sentences.about(14, "LIFTING one thing takes SECONDS: E of lift (0 .. 99; without, with an ERROR: WEIGHT by STRENGTH of whose "
                + "it is that is taken down, cut, and 1).");
        Check.due("98", spent(1, 1, "law lift 98;wait 1 999;"), 98);
        Check.due("99", spent(1, 1, "law lift 99;wait 1 999;"), 99);
        Check.due("99 of 99", spent(1, 1, "law lift 99;wait 1 99;"), 99);
        Check.due("99 of 98", spent(1, 1, "law lift 99;wait 1 98;"), -1);
        Check.due("100 is 99", spent(1, 1, "law lift 100;wait 1 99;"), 99);
        Check.due("10 to the 12 is 99", spent(1, 1, "law lift " + MOST + ";wait 1 99;"), 99);
        Check.due("beyond it is an error", spent(1, 1, "law lift " + MOST + "+1;wait 1 99;"), 2);
        Check.due("1 of 0", spent(1, 1, "law lift 1;wait 1 0;"), -1);
        Check.due("0 of 0", spent(1, 1, "law lift 0;wait 1 0;"), 0);
        Check.due("-1 is 0", spent(1, 1, "law lift 0-1;wait 1 0;"), 0);
        Check.due("-10 to the 12 is 0", spent(1, 1, "law lift 0-" + MOST + ";wait 1 0;"), 0);
        Check.due("an error", spent(10, 3, "law lift 1/0;"), 4);
        Check.due("lightest and strongest", spent(1, 99, ""), 1);
        Check.due("98 by 99", spent(98, 99, ""), 1);
        Check.due("99 by 99", spent(99, 99, ""), 2);
        Check.due("99 by 98", spent(99, 98, ""), 2);
        Check.due("99 by 50", spent(99, 50, ""), 2);
        Check.due("99 by 49", spent(99, 49, ""), 3);
        Check.due("99 by 1 is 100, not 99", spent(99, 1, "wait 1 100;"), 100);
        Check.due("99 by 1 in 99", spent(99, 1, "wait 1 99;"), -1);
        // b's piece lies above a's: a lifts it by his own strength.
        RackTrain x = Check.trainAt(2, "place seat 99;person a 0 1 1;person b 0 2 99;piece a 1 0;piece b 20 0;");
        Check.due("21 and 2", Check.person(x, 0, 4), 23);
        RackTrain y = Check.trainAt(2, "place seat 99;person a 0 1 5;person b 0 2 99;piece a 1 0;piece b 20 0;law lift able;");
        Check.due("able is a's for both", Check.person(y, 0, 4), 10);
    }

    private void takingDown() {
        sentences.about(14, "Taking down a PIECE: each that lies above it is lifted, then it, and those are put back in their order "
                + "(no more SECONDS).");
        String stack = "place seat 999;person a 0 1 10;person b 0 9 10;";
        RackTrain ten = Check.trainAt(2, stack + "piece a 10 0;" + times("piece b 10 0;", 9));
        Check.due("ten things of 2 seconds", Check.person(ten, 0, 4), 20);
        Check.due("nine lifts", ten.count(5), 9);
        for (int i = 1; i < 10; i++) {
            Check.due("above " + i, ten.piece(i, 5), 9 - i);
        }
        Check.due("weight", ten.place(0, 2), 90);
        Check.due("pieces", ten.place(0, 3), 9);
        RackTrain one = Check.trainAt(2, stack + "piece a 10 0;");
        Check.due("alone", Check.person(one, 0, 4) * 10 + one.count(5), 20);
        Check.due("nothing is left there", one.place(0, 4), -1);
        Check.due("no weight", one.place(0, 2), 0);
        // b gets in first: a's lies on top, so that none above it is lifted.
        RackTrain top = Check.trainAt(2, "place seat 99;person b 0 9 10;person a 0 1 10;piece b 10 0;piece a 10 0;");
        Check.due("on top", Check.person(top, 1, 4) * 10 + top.count(5), 20);
        // From the bottom up 0 of b, 1 of a, 2 of b, 3 of a: 1 lifts two, 3 none.
        RackTrain between = Check.train("place seat 99;person a 0 1 10;person b 0 9 10;piece b 10 0;piece a 10 0;piece b 10 0;piece a 10 0;");
        between.go(1);
        between.move(1, 0);
        between.move(2, 0);
        between.move(3, 0);
        between.go(1);
        Check.due("two and none", between.count(5), 2);
        Check.due("6 and 2", Check.person(between, 0, 4), 8);
        Check.due("2 on 0", between.piece(0, 5) * 10 + between.piece(2, 5), 10);
    }

    private void atAStop() {
        sentences.about(14, "A STOP t (0 up): (1) by numbers each PERSON on the train who gets OUT at t, or should have ahead, takes "
                + "down his PIECES by numbers, while SECONDS of all taken down at this STOP with those of the next one are at most those "
                + "of the STOP: they are OUT; a PIECE for which there's no time stays, and so do all behind it, of all PERSONS.");
        // Each in a place of its own: a's take 2 and 60 seconds, b's takes 1, c has none.
        String text = "place seat 99;place seat 99;place seat 99;person a 0 1 1;person b 0 1 99;person c 0 1 1;person d 0 2 1;"
                + "piece b 1 0 2;piece a 1 0 0;piece a 59 0 1;";
        int[][] due = {{0, 0}, {1, 0}, {2, 1}, {3, 1}, {61, 1}, {62, 2}, {63, 3}, {64, 3}, {999, 3}};
        for (int[] row : due) {
            RackTrain x = Check.trainAt(2, text + "wait 1 " + row[0] + ";");
            Check.due("out in " + row[0], x.count(7), row[1]);
            Check.due("a in " + row[0], Check.person(x, 0, 3), row[1] >= 2 ? 2 : 1);
            Check.due("b in " + row[0], Check.person(x, 1, 3), row[1] == 3 ? 2 : 1);
            Check.due("c in " + row[0], Check.person(x, 2, 3), 2);
            Check.due("d in " + row[0], Check.person(x, 3, 3), 1);
            Check.due("seconds of a in " + row[0], Check.person(x, 0, 4), row[1] == 0 ? 0 : row[1] == 1 ? 2 : 62);
            // In the 60 seconds of stops 2, 3, 4 goes one of a's two (2, 60) or b's (1), but not two of them with the 60.
            for (int stop = 2; stop <= 4; stop++) {
                x.go(1);
                Check.due("b behind stop " + stop + ", " + row[0], Check.person(x, 1, 3), row[1] + stop >= 4 ? 2 : 1);
            }
        }
        // Nobody gets out at the stop at which he gets in; stop 0 has nobody on the train.
        RackTrain first = Check.trainAt(1, "place seat 9;person a 0 1 1;piece a 1 0;wait 0 0;");
        Check.due("in at 0", Check.person(first, 0, 3), 1);
    }

    private void gettingOut() {
        sentences.about(14, "Who gets OUT and has none in a PLACE any more (FALLEN, STOLEN, LEFT ones don't matter) is OUT; at the last "
                + "STOP 20 all get out, what isn't taken down is LEFT.");
        // b's piece needs all of the time there isn't; a's are fallen, stolen, left: a is out.
        RackTrain x = Check.trainAt(2, "place net 9;place hall 9;place seat 99;person b 0 1 1;person a 0 1 1;piece b 99 0 2;"
                + "piece a 1 0 0;piece a 1 0 1;piece a 10 0 0;law fall 100;law steal 100;");
        Check.due("fallen, stolen, left", x.piece(1, 3) * 100 + x.piece(2, 3) * 10 + x.piece(3, 3), 345);
        Check.due("b stays", Check.person(x, 0, 3), 1);
        Check.due("a is out", Check.person(x, 1, 3), 2);
        Check.due("seconds of a", Check.person(x, 1, 4), 0);
        // 60 seconds at stop 20: 59 by 1 and 1 are just so many.
        RackTrain time = Check.trainAt(21, "place seat 99;person a 0 20 1;piece a 59 0;");
        Check.due("taken down", time.piece(0, 3), 2);
        RackTrain none = Check.trainAt(20, "place seat 999;person a 0 20 1;person b 0 5 1;person c 19 20 1;piece a 60 0;piece b 99 0;piece c 1 0;");
        Check.due("three at 20", none.count(11), 3);
        none.go(1);
        for (int i = 0; i < 3; i++) {
            Check.due("all get out " + i, Check.person(none, i, 3), 2);
            Check.due("left " + i, none.piece(i, 3), 5);
            Check.due("in no place " + i, none.piece(i, 4), -1);
        }
        Check.due("nothing lies there", none.place(0, 2) * 10 + none.place(0, 3), 0);
        Check.due("left", none.count(10), 3);
        Check.due("at 20 one more second", spentAt20(60), -1);
        Check.due("at 20 just in time", spentAt20(59), 60);
        // At 19 nobody is left behind yet.
        RackTrain late = Check.trainAt(20, "place seat 99;person a 0 19 1;piece a 60 0;");
        Check.due("late at 19", late.count(10) * 10 + late.count(11), 1);
    }

    private static int spentAt20(int weight) {
        RackTrain x = Check.trainAt(21, "place seat 99;person a 0 20 1;piece a " + weight + " 0;");
        return x.piece(0, 3) == 2 ? Check.person(x, 0, 4) : -1;
    }

    private static void placesOf(String text, int... due) {
        RackTrain x = Check.trainAt(1, text);
        for (int i = 0; i < due.length; i++) {
            Check.due("place of piece " + i + " in " + text, x.piece(i, 4), due[i]);
            Check.due("state of piece " + i + " in " + text, x.piece(i, 3), due[i] < 0 ? 5 : 1);
        }
    }

    private void stowing() {
        sentences.about(14, "(2) by numbers each who gets IN at t: PIECES by numbers are stowed on top: in the PLACE told, if that HOLDS "
                + "it still; else, if none is told, by first in the first PLACE that HOLDS it still (WEIGHT of all in it and its own), by "
                + "light in that of these in which least WEIGHT is, the first of several, by last in the last one; in no such one: it is LEFT.");
        String two = "place seat 10;place floor 20;person a 0 9 9;";
        for (String rule : new String[] {"", "rule first;", "rule light;", "rule last;"}) {
            int one = rule.contains("last") ? 1 : 0;
            placesOf(two + rule + "piece a 10 0;", one);
            placesOf(two + rule + "piece a 11 0;", 1);
            placesOf(two + rule + "piece a 20 0;", 1);
            placesOf(two + rule + "piece a 21 0;", -1);
            placesOf("person a 0 9 9;" + rule + "piece a 1 0;", -1);
            placesOf("place net 0;place net 0;person a 0 9 9;" + rule + "piece a 1 0;", -1);
            // Told ones: just full, one too much, though the other one has room.
            placesOf(two + rule + "piece a 10 0 0;piece a 1 0 0;piece a 1 0;", 0, -1, 1);
            placesOf(two + rule + "piece a 9 0 0;piece a 1 0 0;piece a 20 0 1;piece a 1 0 1;", 0, 0, 1, -1);
        }
        // By light: of like ones the first; one unit fewer wins; a full one doesn't.
        String three = "place seat 10;place seat 30;place seat 30;person a 0 9 9;rule light;";
        placesOf(three + "piece a 5 0;piece a 5 0;piece a 5 0;piece a 5 0;", 0, 1, 2, 0);
        placesOf(three + "piece a 5 0 0;piece a 4 0 1;piece a 4 0 2;piece a 1 0;piece a 1 0;piece a 1 0;", 0, 1, 2, 1, 2, 0);
        placesOf(three + "piece a 9 0 1;piece a 9 0 2;piece a 11 0;", 1, 2, 1);
        // By last: the last one that has room still.
        placesOf("place seat 30;place seat 30;place seat 10;person a 0 9 9;rule last;piece a 10 0;piece a 1 0;piece a 30 0;piece a 29 0;piece a 2 0;",
                2, 1, 0, 1, -1);
        // Persons by numbers, whatever numbers their pieces have.
        placesOf("place seat 5;person a 0 9 9;person b 0 9 9;piece b 5 0;piece a 5 0;", -1, 0);
        // At stop 19 the last ones get in; at 20 nobody does.
        RackTrain last = Check.trainAt(20, "place seat 5;person a 19 20 9;piece a 5 0;");
        Check.due("in at 19", last.piece(0, 4), 0);
    }

    /** A seed whose first number modulo 100 is this one. */
    private static int seedFor(int number) {
        for (int seed = 0; seed <= 99999; seed++) {
            if (Check.number(new long[] {seed}) == number) {
                return seed;
            }
        }
        return -1;
    }

    private static int fallen(int number, String more) {
        return Check.trainAt(1, "place net 99;person a 0 9 9;piece a 5 0;seed " + seedFor(number) + ";" + more).count(8);
    }

    private void falling() {
        sentences.about(14, "(3) on the way to the next STOP: of PIECES in nets and shelves that lie on top (by PLACES) FALL those whose E "
                + "of fall (0 .. 100; curve and 10 times how many lie below it less WEIGHT, 0 at least, without, with an ERROR) is above a "
                + "number modulo 100 (a number for each);");
        Check.due("0 and 0", fallen(0, "law fall 0;"), 0);
        Check.due("-1 and 0", fallen(0, "law fall 0-1;"), 0);
        Check.due("1 and 0", fallen(0, "law fall 1;"), 1);
        Check.due("1 and 1", fallen(1, "law fall 1;"), 0);
        Check.due("50 and 49", fallen(49, "law fall 50;"), 1);
        Check.due("50 and 50", fallen(50, "law fall 50;"), 0);
        Check.due("99 and 99", fallen(99, "law fall 99;"), 0);
        Check.due("100 and 99", fallen(99, "law fall 100;"), 1);
        Check.due("101 and 99", fallen(99, "law fall 101;"), 1);
        Check.due("curve as weight", fallen(0, "curve 5;"), 0);
        Check.due("curve below weight", fallen(0, "curve 4;"), 0);
        Check.due("curve above weight by 1", fallen(0, "curve 6;"), 1);
        Check.due("an error", fallen(0, "curve 6;law fall 1/0;"), 1);
        Check.due("an error, curve as weight", fallen(0, "curve 5;law fall 1/0;"), 0);
        // One below: 10 more; the piece told last lies on top.
        Check.due("10 less 5 and 4", fallen(4, "piece a 5 0;"), 1);
        Check.due("10 less 5 and 5", fallen(5, "piece a 5 0;"), 0);
        Check.due("nine below", Check.trainAt(1, "place net 999;person a 0 9 9;" + times("piece a 1 0;", 10) + "seed " + seedFor(88) + ";").count(8), 1);
        Check.due("nine below and 89", Check.trainAt(1, "place net 999;person a 0 9 9;" + times("piece a 1 0;", 10) + "seed " + seedFor(89) + ";").count(8), 0);
        // All kinds with one piece each: nets and shelves alone, and of two in a net only the upper one.
        RackTrain kinds = Check.trainAt(1, "place net 9;place shelf 9;place floor 9;place seat 9;place hall 9;person a 0 9 9;piece a 1 0 0;"
                + "piece a 1 0 1;piece a 1 0 2;piece a 1 0 3;piece a 1 0 4;piece a 1 0 0;law fall 100;law steal 0;");
        int[] due = {1, 3, 1, 1, 1, 3};
        for (int i = 0; i < 6; i++) {
            Check.due("kind " + i, kinds.piece(i, 3), due[i]);
        }
        kinds.go(1);
        Check.due("the lower one behind the next stop", kinds.piece(0, 3), 3);
        // A number for each, also for one that never falls; none for an empty place, a seat, a floor.
        for (int seed = 0; seed < 60; seed++) {
            long[] last = {seed};
            Check.number(last);
            boolean second = 50 > Check.number(last);
            RackTrain x = Check.trainAt(1, "place net 9;place seat 9;place net 9;place floor 9;place shelf 9;person a 0 9 9;piece a 9 0 0;"
                    + "piece a 1 0 1;piece a 1 0 3;piece a 1 0 4;law fall 50*(heavy=1);seed " + seed + ";");
            Check.due("the second number, seed " + seed, x.piece(3, 3), second ? 3 : 1);
            Check.due("fallen, seed " + seed, x.count(8), second ? 1 : 0);
        }
    }

    private static int stolen(int number, String more) {
        return Check.trainAt(1, "place hall 99;person a 0 9 9;piece a 5 0;seed " + seedFor(number) + ";" + more).count(9);
    }

    private void stealing() {
        sentences.about(14, "then of PIECES in halls, by numbers, those are STOLEN whose E of steal (0 .. 100; 10 without, with an ERROR) "
                + "is above a number modulo 100.");
        Check.due("10 and 9", stolen(9, ""), 1);
        Check.due("10 and 10", stolen(10, ""), 0);
        Check.due("an error and 9", stolen(9, "law steal 1/0;"), 1);
        Check.due("an error and 10", stolen(10, "law steal 1/0;"), 0);
        Check.due("0 and 0", stolen(0, "law steal 0;"), 0);
        Check.due("-5 and 0", stolen(0, "law steal 0-5;"), 0);
        Check.due("1 and 0", stolen(0, "law steal 1;"), 1);
        Check.due("1 and 1", stolen(1, "law steal 1;"), 0);
        Check.due("99 and 99", stolen(99, "law steal 99;"), 0);
        Check.due("100 and 99", stolen(99, "law steal 100;"), 1);
        Check.due("9999 and 99", stolen(99, "law steal 9999;"), 1);
        // All that lies in the hall, not only what is on top; nothing of what lies elsewhere; curves don't matter.
        RackTrain x = Check.trainAt(1, "place hall 99;place net 9;place shelf 9;place floor 9;place seat 9;person a 0 9 9;" + times("piece a 1 0 0;", 5)
                + "piece a 1 0 1;piece a 1 0 2;piece a 1 0 3;piece a 1 0 4;law steal 100;law fall 0;");
        Check.due("five are stolen", x.count(9), 5);
        Check.due("four stay", x.count(6), 4);
        Check.due("the hall is empty", x.place(0, 2) * 10 + x.place(0, 3), 0);
        // By numbers, though the lesser number lies above: only the first number is 0, so 1 is above that alone.
        RackTrain order = Check.train("place hall 99;person a 0 9 9;piece a 1 0;piece a 1 0;law steal (stop=1)*50;seed 6;");
        order.go(1);
        order.move(0, 0);
        long[] last = {6};
        Check.number(last);
        Check.number(last);
        boolean zero = 50 > Check.number(last);
        boolean one = 50 > Check.number(last);
        order.go(1);
        Check.due("0 by the third number", order.piece(0, 3), zero ? 4 : 1);
        Check.due("1 by the fourth number", order.piece(1, 3), one ? 4 : 1);
        // Behind what falls: a net's number comes first, though its piece has the higher number.
        for (int seed = 0; seed < 40; seed++) {
            long[] row = {seed};
            boolean falls = 50 > Check.number(row);
            boolean goes = 50 > Check.number(row);
            RackTrain y = Check.trainAt(1, "place hall 9;place net 9;person a 0 9 9;piece a 1 0 0;piece a 1 0 1;law fall 50;law steal 50;seed " + seed + ";");
            Check.due("falls, seed " + seed, y.count(8), falls ? 1 : 0);
            Check.due("is stolen, seed " + seed, y.count(9), goes ? 1 : 0);
        }
    }

    private void nextStop() {
        sentences.about(14, "Then it is the next STOP; behind STOP 20 the journey is over.");
        RackTrain x = Check.train("place net 99;person a 19 20 9;piece a 9 0;law fall stop*100;");
        for (int i = 1; i <= 21; i++) {
            Check.due("one more", x.go(1), i);
        }
        Check.due("it fell behind 19", x.piece(0, 3), 3);
        Check.refused(x, "one more behind the end", y -> y.go(1), -1);
        Check.due("none more", x.go(0), 21);
        // Nobody is there behind stop 20: nothing falls or is stolen.
        RackTrain y = Check.trainAt(21, "place net 99;place hall 99;person a 0 20 9;piece a 9 0 0;piece a 9 0 1;law fall (stop=20)*100;law steal (stop=20)*100;");
        Check.due("out", y.count(7), 2);
    }

    private void names() {
        sentences.about(10, "NAMES: heavy: WEIGHT; frail: FRAIL; above: how many lie above it; kind: KIND of its PLACE; able: STRENGTH of "
                + "whose is taken down (of fall, steal of whose it is); stop: the STOP; bears: WEIGHT of all in its PLACE.");
        String laws = "law lift heavy*1000+frail*100+above*10+kind;law fall able*100+stop;law steal bears;";
        RackTrain x = Check.trainAt(1, "place seat 999;place hall 9;person a 0 20 1;person b 0 20 99;piece a 1 0;" + times("piece b 99 9;", 8)
                + "piece a 9 9 1;" + laws + "seed 55555;");
        Check.due("the least, nine less one above", x.law(0, 0), 1000 + 80 + 3);
        Check.due("the most, none above", x.law(0, 8), 99000 + 900 + 3);
        Check.due("able 1", x.law(1, 0), 101);
        Check.due("able 99", x.law(1, 8), 9901);
        Check.due("bears", x.law(2, 0), 1 + 8 * 99);
        x.help(0, 50);
        Check.due("able 50", x.law(1, 0), 5001);
        x.go(19);
        Check.due("stop 20", x.law(1, 0), 5020);
        RackTrain kinds = Check.trainAt(1, "place net 9;place shelf 9;place floor 9;place seat 9;place hall 9;person a 0 9 9;piece a 1 0 0;piece a 1 0 1;"
                + "piece a 1 0 2;piece a 1 0 3;piece a 1 0 4;law lift kind;law fall 0;law steal 0;");
        for (int i = 0; i < 5; i++) {
            Check.due("kind " + i, kinds.law(0, i), i);
        }
        // stop is 0 on the way behind stop 0, and 20 in taking down at the last one.
        Check.due("stop 0", Check.trainAt(1, "place net 9;person a 0 9 9;piece a 1 0;law fall 100*(stop=0);").count(8), 1);
        RackTrain last = Check.trainAt(21, "place seat 9;person a 0 20 9;piece a 1 0;law lift stop;");
        Check.due("stop 20 in lifting", Check.person(last, 0, 4), 20);
    }

    private static long value(String e) {
        return Check.trainAt(1, "place shelf 99;person a 0 5 7;piece a 12 3;law lift " + e + ";").law(0, 0);
    }

    private void values() {
        sentences.about(10, "VALUES are longs; comparisons, and, or, not are 1 or 0 (what isn't 0 is as 1, both sides are worked out), / is "
                + "cut towards 0;");
        Check.due("beyond an int", value("9999*9999*100"), 9998000100L);
        Check.due("below it", value("0-9999*9999*100"), -9998000100L);
        Check.due("2 to the 32", value("256*256*256*256"), 4294967296L);
        Check.due("beyond an int compared", value("256*256*256*256>1"), 1);
        Check.due("2 to the 32 isn't 0", value("256*256*256*256 and 1"), 1);
        Check.due("not 2 to the 32", value("not 256*256*256*256"), 0);
        Check.due("-1 is as 1", value("(0-1) and 2"), 1);
        Check.due("-1 or 0", value("(0-1) or 0"), 1);
        Check.due("not -1", value("not (0-1)"), 0);
        Check.due("not 0", value("not 0"), 1);
        Check.due("0 and -1", value("0 and (0-1)"), 0);
        Check.due("0 or 0, 0 or 9, 9 or 0", value("(0 or 0)*100+(0 or 9)*10+(9 or 0)"), 11);
        Check.due("0 and 0, 9 and 0, 9 and 9", value("(0 and 0)*100+(9 and 0)*10+(9 and 9)"), 1);
        Check.due("equal ones", value("(((((2<2)*10+(2<=2))*10+(2=2))*10+(2<>2))*10+(2>=2))*10+(2>2)"), 11010);
        Check.due("one less", value("(((((1<2)*10+(1<=2))*10+(1=2))*10+(1<>2))*10+(1>=2))*10+(1>2)"), 110100);
        Check.due("one more", value("(((((3<2)*10+(3<=2))*10+(3=2))*10+(3<>2))*10+(3>=2))*10+(3>2)"), 111);
        Check.due("7/2", value("7/2"), 3);
        Check.due("-7/2", value("(0-7)/2"), -3);
        Check.due("7/-2", value("7/(0-2)"), -3);
        Check.due("-7/-2", value("(0-7)/(0-2)"), 3);
        Check.due("-1/2", value("(0-1)/2"), 0);
        Check.due("0/5", value("0/5"), 0);
        Check.due("both sides of and", value("0 and 1/0"), NO_VALUE);
        Check.due("both sides of or", value("1 or 1/0"), NO_VALUE);
        Check.due("the first side", value("1/0 or 1"), NO_VALUE);
    }

    private void errors() {
        sentences.about(10, "ERROR: / by 0, a value above 10 to the 12 or below 0 by more than that.");
        Check.due("0/0", value("0/0"), NO_VALUE);
        Check.due("1/(2-2)", value("1/(2-2)"), NO_VALUE);
        Check.due("1/(1<1)", value("1/(1<1)"), NO_VALUE);
        Check.due("1/1", value("1/1"), 1);
        long most = 1000000000000L;
        Check.due("just so much", value(MOST), most);
        Check.due("1 more", value(MOST + "+1"), NO_VALUE);
        Check.due("1 less", value(MOST + "-1"), most - 1);
        Check.due("just as far below", value("0-" + MOST), -most);
        Check.due("1 further below", value("0-" + MOST + "-1"), NO_VALUE);
        Check.due("1 nearer", value("0-" + MOST + "+1"), 1 - most);
        Check.due("times 1", value(MOST + "*1"), most);
        Check.due("times 2", value(MOST + "*2"), NO_VALUE);
        Check.due("times -1", value(MOST + "*(0-1)"), -most);
        Check.due("times -2", value(MOST + "*(0-2)"), NO_VALUE);
        Check.due("times 0", value(MOST + "*0"), 0);
        Check.due("by itself", value(MOST + "/" + MOST), 1);
        Check.due("less itself", value(MOST + "-" + MOST), 0);
        Check.due("and itself", value(MOST + "+" + MOST), NO_VALUE);
        Check.due("1000001 times 1000000", value("(1000*1000+1)*(1000*1000)"), NO_VALUE);
        Check.due("1000001 times 999999", value("(1000*1000+1)*(1000*1000-1)"), most - 1);
        // Products beyond a long, of which the low bits would be small.
        Check.due("2 to the 64", value("(256*256*256*256)*(256*256*256*256)"), NO_VALUE);
        Check.due("times itself", value(MOST + "*" + MOST), NO_VALUE);
        Check.due("below, times itself", value("(0-" + MOST + ")*" + MOST), NO_VALUE);
        // Beyond it within is an error, also if the whole isn't.
        Check.due("within", value(MOST + "+1-1"), NO_VALUE);
        Check.due("within a comparison", value(MOST + "*2>1"), NO_VALUE);
        Check.due("within not", value("not (1/0)"), NO_VALUE);
        Check.due("times 0, within", value("0*(1/0)"), NO_VALUE);
        Check.due("by 0 behind it", value("(1/0)/0"), NO_VALUE);
    }

    private void numbers() {
        sentences.about(14, "Numbers are the last one (at first the seed) times 1103515245 and 12345, without what is above 31 bits, by 65536.");
        // The first of seed 0 is 12345 by 65536.
        Check.due("0 of seed 0", Check.number(new long[] {0}), 0);
        Check.due("seed 0: 1 is above it", Check.trainAt(1, "place net 9;person a 0 9 9;piece a 1 0;law fall 1;").count(8), 1);
        for (int seed : new int[] {0, 1, 2, 77, 65535, 65536, 99998, 99999}) {
            RackTrain x = Check.train("place hall 99;place net 9;place shelf 9;person a 0 20 9;" + times("piece a 1 0 0;", 8)
                    + "piece a 1 0 1;piece a 1 0 2;law fall 7;law steal 7;seed " + seed + ";");
            long[] last = {seed};
            boolean[] there = new boolean[10];
            java.util.Arrays.fill(there, true);
            for (int stop = 0; stop < 20; stop++) {
                for (int k = 0; k < 10; k++) {
                    int piece = k < 2 ? 8 + k : k - 2;
                    there[piece] = there[piece] && 7 <= Check.number(last);
                }
                x.go(1);
                for (int piece = 0; piece < 10; piece++) {
                    Check.due("seed " + seed + ", stop " + stop + ", piece " + piece, x.piece(piece, 3) == 1, there[piece]);
                }
            }
        }
    }

    private void asItGoes() {
        sentences.about(23, "AS IT GOES: without numbers: FALLEN, STOLEN is what has 50 at least.");
        String net = "place net 99;person a 0 2 9;person b 0 3 9;piece a 1 0;piece b 1 0;";
        Check.due("49", Check.train(net + "law fall 49;").falls(), 0);
        Check.due("50", Check.train(net + "law fall 50;").falls(), 2);
        Check.due("51", Check.train(net + "law fall 51;").falls(), 2);
        Check.due("49 by the curve", Check.train("place net 9;person a 0 2 9;piece a 1 0;curve 50;").falls(), 0);
        Check.due("50 by the curve", Check.train("place net 9;person a 0 2 9;piece a 1 0;curve 51;").falls(), 1);
        String hall = net.replace("net", "hall");
        Check.due("not stolen by 49", Check.train(hall + "law steal 49;").byRule(0), 1);
        Check.due("stolen by 50", Check.train(hall + "law steal 50;").byRule(0), 0);
        Check.due("not stolen without a law", Check.train(hall).byRule(0), 1);
        // The number of seed 0 is 0, by which the piece falls for sure, but not as it goes.
        RackTrain x = Check.train("place net 9;person a 0 2 9;piece a 1 0;law fall 49;");
        Check.due("as it goes", x.falls(), 0);
        x.go(1);
        Check.due("by the number", x.count(8), 1);
    }

    // ---- promises 6 to 14

    private void person() {
        sentences.about(6, "Of a PERSON now, what 0 IN, 1 OUT, 2 STRENGTH, 3: 0 to come, 1 in the train, 2 OUT, 4 SECONDS spent in taking down.");
        String six = "place seat 999;person a 0 1 1;person b 0 1 2;person c 0 1 3;person d 0 1 4;person e 0 1 5;person f 19 20 99;piece f 99 0;";
        RackTrain x = Check.train(six);
        Check.due("the last one", Check.person(x, 5, 0), 19);
        Check.due("to come at 19", Check.person(x, 5, 3), 0);
        x.go(19);
        Check.due("to come still", Check.person(x, 5, 3), 0);
        x.go(1);
        Check.due("in the train", Check.person(x, 5, 3), 1);
        Check.due("none spent", Check.person(x, 5, 4), 0);
        x.go(1);
        Check.due("out", Check.person(x, 5, 3), 2);
        Check.due("spent", Check.person(x, 5, 4), 2);
        Check.due("in as told", Check.person(x, 5, 0), 19);
        Check.due("out as told", Check.person(x, 5, 1), 20);
    }

    private void wrongPersons() {
        sentences.about(6, "IndexOutOfBoundsException: no such PERSON. NoSuchElementException: no such what.");
        RackTrain x = Check.train("person a 0 1 1;person b 0 1 2;");
        for (int what : new int[] {-1, 5, 6, MIN, MAX}) {
            Check.refused(x, "what " + what, y -> Check.person(y, 0, what), Check.NO_WHAT);
            Check.refused(x, "what " + what + " of the last one", y -> Check.person(y, 1, what), Check.NO_WHAT);
        }
        for (int person : new int[] {-1, 2, 6, MIN, MAX}) {
            for (int what : new int[] {-1, 0, 4, 5}) {
                Check.refused(x, "person " + person + " " + what, y -> Check.person(y, person, what), Check.NO_PERSON);
            }
        }
        Check.due("nobody at all", Check.person(new RackTrain(), 0, 0), Check.NO_PERSON);
        Check.due("nobody at all, no such what", Check.person(new RackTrain(), 0, 5), Check.NO_PERSON);
        Check.due("the last one is there", Check.person(x, 1, 2), 2);
    }

    private void piece() {
        sentences.about(7, "Of a PIECE now, what 0 the PERSON, 1 WEIGHT, 2 FRAIL, 3: 0 to COME, 1 in a PLACE, 2 OUT, 3 FALLEN, 4 STOLEN, "
                + "5 LEFT, 4 the PLACE (NONE: in none), 5 how many lie above it (0 in none). NONE: no such ones.");
        RackTrain x = Check.train("place net 99;place hall 9;place seat 99;person a 0 2 9;person b 0 9 9;piece a 1 0 2;piece b 2 1 2;piece b 3 2 0;"
                + "piece b 4 3 1;piece b 99 4 1;law fall 100;law steal 100;");
        int[][] ahead = {{0, 1, 0, 0, -1, 0}, {1, 2, 1, 0, -1, 0}, {1, 3, 2, 0, -1, 0}, {1, 4, 3, 0, -1, 0}, {1, 99, 4, 0, -1, 0}};
        pieces(x, ahead);
        x.go(1);
        pieces(x, new int[][] {{0, 1, 0, 1, 2, 1}, {1, 2, 1, 1, 2, 0}, {1, 3, 2, 3, -1, 0}, {1, 4, 3, 4, -1, 0}, {1, 99, 4, 5, -1, 0}});
        x.go(2);
        pieces(x, new int[][] {{0, 1, 0, 2, -1, 0}, {1, 2, 1, 1, 2, 0}, {1, 3, 2, 3, -1, 0}, {1, 4, 3, 4, -1, 0}, {1, 99, 4, 5, -1, 0}});
        for (int wrong : new int[] {-1, 5, 10, MIN, MAX}) {
            for (int what = 0; what < 6; what++) {
                int asked = what;
                Check.refused(x, "piece " + wrong, y -> y.piece(wrong, asked), -1);
            }
        }
        for (int what : new int[] {-1, 6, MIN, MAX}) {
            Check.refused(x, "what " + what, y -> y.piece(0, what), -1);
        }
        Check.due("no piece at all", new RackTrain().piece(0, 0), -1);
        Check.due("the tenth", Check.train("person a 0 1 1;" + times("piece a 1 0;", 9) + "piece a 7 0;").piece(9, 1), 7);
    }

    private static void pieces(RackTrain x, int[][] due) {
        for (int i = 0; i < due.length; i++) {
            for (int what = 0; what < 6; what++) {
                Check.due("piece " + i + ", " + what, x.piece(i, what), due[i][what]);
            }
        }
    }

    private void place() {
        sentences.about(8, "Of a PLACE now, what 0 KIND, 1 HOLDS, 2 WEIGHT of all in it, 3 how many PIECES, 4 the one on top (NONE).");
        sentences.about(8, "NONE: no such ones.");
        RackTrain x = Check.train("place hall 0;place net 1;place net 2;place net 3;place seat 999;person a 0 2 9;person b 0 3 9;"
                + times("piece a 99 0 4;", 9) + "piece b 98 0 4;law lift 0;");
        int[][] due = {{3, 999, 0, 0, -1}, {3, 999, 989, 10, 9}, {3, 999, 98, 1, 9}, {3, 999, 0, 0, -1}};
        int[] stops = {0, 1, 2, 1};
        for (int i = 0; i < 4; i++) {
            x.go(stops[i]);
            for (int what = 0; what < 5; what++) {
                Check.due("time " + i + ", " + what, x.place(4, what), due[i][what]);
            }
        }
        for (int what = 0; what < 5; what++) {
            int asked = what;
            for (int wrong : new int[] {-1, 5, MIN, MAX}) {
                Check.refused(x, "place " + wrong, y -> y.place(wrong, asked), -1);
            }
            Check.due("no place at all", new RackTrain().place(0, what), -1);
        }
        for (int what : new int[] {-1, 5, MIN, MAX}) {
            Check.refused(x, "what " + what, y -> y.place(0, what), -1);
        }
    }

    private void waits() {
        sentences.about(9, "SECONDS of a STOP 0 .. 20; NONE: no such one.");
        RackTrain x = Check.train("wait 0 1;wait 19 2;");
        Check.due("0", x.waits(0), 1);
        Check.due("19", x.waits(19), 2);
        Check.due("20", x.waits(20), 60);
        for (int stop : new int[] {-1, 21, 22, MIN, MAX}) {
            Check.refused(x, "stop " + stop, y -> y.waits(stop), -1);
        }
        x.go(21);
        Check.due("also when it is over", x.waits(0), 1);
    }

    private void law() {
        sentences.about(10, "A law's E (what 0 lift, as if it were taken down; 1 fall; 2 steal) of a PIECE in a PLACE now. Long.MIN_VALUE: "
                + "an ERROR, no such law, no such ones, in no PLACE.");
        RackTrain x = Check.train("place net 9;place hall 9;place seat 9;person a 0 2 5;person b 0 9 7;piece a 1 0 2;piece b 1 0 0;piece b 1 0 1;"
                + "piece b 10 0 0;piece b 2 0 2;law lift able*100;law fall 100+heavy;law steal 1/(heavy-2);wait 2 198;");
        for (int what = 0; what < 3; what++) {
            Check.due("to come", x.law(what, 0), NO_VALUE);
        }
        x.go(1);
        Check.due("fallen", x.law(0, 1), NO_VALUE);
        Check.due("left", x.law(0, 3), NO_VALUE);
        // Beyond 99 and 100, as E is.
        Check.due("lift by a", x.law(0, 0), 500);
        Check.due("lift by b", x.law(0, 4), 700);
        Check.due("fall, also on a seat", x.law(1, 4), 102);
        Check.due("steal, also on a seat", x.law(2, 0), -1);
        Check.due("an error", x.law(2, 4), NO_VALUE);
        for (int wrong : new int[] {-1, 3, MIN, MAX}) {
            Check.refused(x, "what " + wrong, y -> y.law(wrong, 0), NO_VALUE);
        }
        for (int wrong : new int[] {-1, 5, 10, MIN, MAX}) {
            Check.refused(x, "piece " + wrong, y -> y.law(0, wrong), NO_VALUE);
        }
        x.go(2);
        Check.due("out", x.law(0, 0), NO_VALUE);
        RackTrain one = Check.trainAt(1, "place seat 9;person a 0 9 9;piece a 1 0;law fall 0;");
        Check.due("no lift", one.law(0, 0), NO_VALUE);
        Check.due("fall 0", one.law(1, 0), 0);
        Check.due("no steal", one.law(2, 0), NO_VALUE);
        Check.due("none at all", new RackTrain().law(0, 0), NO_VALUE);
    }

    private void move() {
        sentences.about(11, "A PIECE goes on top of a PLACE (also of its own): true; false: no such ones, in none, it is on top there, that "
                + "one HOLDS it no more.");
        RackTrain x = Check.train("place seat 20;place seat 10;place seat 9;place net 9;person a 0 2 9;person b 0 9 9;person c 5 9 9;piece b 10 0 0;"
                + "piece b 10 0 0;piece a 1 0 1;piece c 1 0;piece b 99 0 2;piece b 1 0 3;law fall 100;");
        for (int piece = 0; piece < 6; piece++) {
            int moved = piece;
            Check.refused(x, "to come", y -> y.move(moved, 0));
        }
        x.go(1);
        Check.refused(x, "on top there", y -> y.move(1, 0));
        Check.refused(x, "alone there", y -> y.move(2, 1));
        Check.refused(x, "to come still", y -> y.move(3, 0));
        Check.refused(x, "left", y -> y.move(4, 0));
        Check.refused(x, "fallen", y -> y.move(5, 0));
        Check.refused(x, "one too much", y -> y.move(0, 1));
        Check.refused(x, "more than it holds", y -> y.move(0, 2));
        for (int wrong : new int[] {-1, 6, 10, MIN, MAX}) {
            Check.refused(x, "piece " + wrong, y -> y.move(wrong, 0));
        }
        for (int wrong : new int[] {-1, 4, 5, MIN, MAX}) {
            Check.refused(x, "place " + wrong, y -> y.move(0, wrong));
        }
        Check.due("full, but its own", x.move(0, 0), true);
        Check.due("it is on top", x.place(0, 4), 0);
        Check.due("as many", x.place(0, 2) * 10 + x.place(0, 3), 202);
        Check.due("to an empty one", x.move(2, 2), true);
        Check.due("just as much as it holds", x.move(0, 1), true);
        Check.due("weights", x.place(0, 2) * 10000 + x.place(1, 2) * 100 + x.place(2, 2), 101001);
        Check.due("none are lifted", x.count(5), 0);
        x.go(2);
        Check.refused(x, "out", y -> y.move(2, 0));
        Check.refused(new RackTrain(), "none at all", y -> y.move(0, 0));
    }

    private void turn() {
        sentences.about(12, "TURN of a PLACE: how many change; NONE: no such one.");
        RackTrain x = Check.train("place seat 999;place seat 9;person a 0 1 9;person b 0 9 9;piece b 1 0 1;piece a 1 0;" + times("piece b 1 0;", 8));
        Check.due("nothing there", x.turn(0), 0);
        x.go(1);
        Check.refused(x, "one alone", y -> y.turn(1), 0);
        for (int wrong : new int[] {-1, 2, 5, MIN, MAX}) {
            Check.refused(x, "place " + wrong, y -> y.turn(wrong), -1);
        }
        // From the bottom up 1 (of a), 2 .. 9; then 9 .. 2, 1: the middle one of nine, 5, stays where it is.
        Check.due("all but the middle one", x.turn(0), 8);
        Check.due("a's is on top", x.place(0, 4), 1);
        for (int i = 1; i < 10; i++) {
            Check.due("above " + i, x.piece(i, 5), i - 1);
        }
        Check.refused(x, "once more", y -> y.turn(0), 0);
        Check.refused(new RackTrain(), "none at all", y -> y.turn(0), -1);
        RackTrain two = Check.trainAt(1, "place seat 9;person a 0 1 9;person b 0 2 9;piece a 1 0;piece b 1 0;");
        Check.due("two", two.turn(0), 2);
        RackTrain ten = Check.trainAt(1, "place seat 99;person a 0 1 9;" + times("piece a 1 0;", 10));
        Check.due("ten", ten.turn(0), 10);
        Check.due("the least number is on top", ten.place(0, 4), 0);
    }

    private void help() {
        sentences.about(13, "A PERSON has so much STRENGTH 1 .. 99 from now on: true; false: no such ones, it is so.");
        RackTrain x = Check.train("place seat 99;person a 0 2 10;person b 0 3 50;piece a 99 0 0;");
        for (int strength : new int[] {0, -1, 100, MIN, MAX, 10}) {
            Check.refused(x, "strength " + strength, y -> y.help(0, strength));
        }
        for (int wrong : new int[] {-1, 2, 6, MIN, MAX}) {
            Check.refused(x, "person " + wrong, y -> y.help(wrong, 5));
        }
        Check.due("1", x.help(0, 1), true);
        Check.due("it is 1", Check.person(x, 0, 2), 1);
        Check.refused(x, "1 again", y -> y.help(0, 1));
        Check.due("99", x.help(0, 99), true);
        Check.due("99 to b", x.help(1, 99), true);
        x.go(3);
        Check.due("99 by 99 and 1", Check.person(x, 0, 4), 2);
        Check.due("one who is out", x.help(0, 98), true);
        x.go(18);
        Check.due("from now on", Check.person(x, 0, 2) * 100 + Check.person(x, 1, 2), 9899);
        Check.refused(x, "99 again", y -> y.help(1, 99));
        Check.refused(new RackTrain(), "nobody at all", y -> y.help(0, 1));
    }

    private void go() {
        sentences.about(14, "So many STOPS (0 .. 21) go by: which one comes next (21: it is over); NONE, and none does: no such number, behind 21.");
        String text = "place net 99;person a 0 5 9;piece a 1 0;law fall 3;seed 9;";
        for (int from = 0; from <= 21; from++) {
            RackTrain x = Check.trainAt(from, text);
            int here = from;
            for (int n : new int[] {-1, 22, 22 - here, 100, MIN, MAX}) {
                Check.refused(x, n + " from " + from, y -> y.go(n), -1);
            }
            Check.due("0 from " + from, x.go(0), from);
            Check.due("to the end from " + from, x.go(21 - from), 21);
            Check.due("all at once is as one by one", x.piece(0, 3), Check.trainAt(21, text).piece(0, 3));
        }
        RackTrain none = new RackTrain();
        Check.due("without a text", none.go(21), 21);
        Check.due("no more", none.go(1), -1);
    }
}
