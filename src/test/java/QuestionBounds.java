/** Where questions, undoing and images have their limits (parts 3 and 4 of the terms), and promises 15 to 35. */
final class QuestionBounds {
    private static final int MAX = Integer.MAX_VALUE;
    private static final int MIN = Integer.MIN_VALUE;
    /** One seat; from the bottom up pieces 0 (out at 1), 1, 2, 3 (out at 2). */
    private static final String FOUR = "place seat 999;person a 0 1 10;person b 0 2 10;"
            + "piece a 10 0;piece b 20 1;piece b 30 2;piece b 40 3;";

    private final Sentences sentences;

    QuestionBounds(Sentences sentences) {
        this.sentences = sentences;
    }

    void run() {
        lifts();
        leastTerm();
        mineTerm();
        turnTerm();
        whenTerm();
        choiceTerm();
        restTerm();
        byRuleTerm();
        missedTerm();
        askingTerm();
        feetTerm();
        seenTerm();
        strikeTerm();
        knownTerm();
        gotTerm();
        triedTerm();
        undoTerm();
        imageTerm();
        least();
        mine();
        when();
        rests();
        rest();
        byRule();
        bestRule();
        missed();
        falls();
        asking();
        feet();
        see();
        strike();
        known();
        got();
        chance();
        tried();
        undo();
        keep();
        back();
        count();
        nothingElseChanges();
    }

    private static String times(String s, int n) {
        return s.repeat(n);
    }

    // ---- part 3 of the terms

    private void lifts() {
        sentences.about(35, "LIFTS: how many things were lifted above others' (but those taken down themselves).");
        RackTrain one = Check.trainAt(2, "place seat 9;person a 0 1 9;piece a 9 0;");
        Check.due("alone", one.count(5), 0);
        RackTrain two = Check.trainAt(2, "place seat 99;person a 0 1 9;piece a 9 0;piece a 9 0;");
        Check.due("his own above it", two.count(5), 1);
        // 9 + 8 + .. + 0, all of one person.
        RackTrain ten = Check.trainAt(2, "place seat 999;person a 0 1 9;" + times("piece a 9 0;", 10) + "law lift 0;wait 1 0;");
        Check.due("ten from the bottom up", ten.count(5), 45);
        RackTrain turned = Check.train("place seat 999;person a 0 1 9;" + times("piece a 9 0;", 10) + "law lift 0;");
        turned.go(1);
        turned.turn(0);
        turned.go(1);
        Check.due("ten from the top down", turned.count(5), 0);
        // What there's no time for isn't lifted, nor is what lies above it.
        RackTrain late = Check.trainAt(2, "place seat 99;person a 0 1 9;piece a 9 0;piece a 9 0;wait 1 3;");
        Check.due("no time", late.count(5), 0);
        Check.due("left at 20 without a lift", Check.trainAt(21, "place seat 999;person a 0 20 1;piece a 70 0;piece a 70 0;").count(5), 0);
        Check.due("none at first", new RackTrain().count(5), 0);
    }

    private static void leastIs(String text, int stop, int... due) {
        RackTrain x = Check.trainAt(stop, text);
        for (int what = 0; what < due.length; what++) {
            Check.due("least(" + what + ") at " + stop + " of " + text, x.least(what), due[what]);
        }
    }

    private void leastTerm() {
        sentences.about(15, "LEAST for this STOP: PLACES for the PIECES that come at this STOP (4 at most, of those who get IN now), by which "
                + "fewest LIFTS are made as it goes to the end (none LEFT by it, as far as each PLACE HOLDS when they come, behind (1)), of "
                + "several the first by PIECES.");
        String five = times("place seat 9;", 5) + "person a 0 1 1;person b 0 1 1;person c 1 2 1;";
        leastIs(five + times("piece a 9 0;", 4), 0, 0, 0, 1, 2, 3);
        leastIs(five + times("piece a 9 0;", 5), 0, -4, -4, -4, -4, -4);
        leastIs(five + times("piece a 9 0;", 3) + times("piece b 9 0;", 1), 0, 0, 0, 1, 2, 3);
        leastIs(five + times("piece a 9 0;", 3) + times("piece b 9 0;", 2), 0, -4);
        leastIs(five + times("piece a 9 0;", 4) + times("piece c 9 0;", 4), 0, 0, 0, 1, 2, 3);
        leastIs(five + times("piece a 9 0;", 4) + times("piece c 9 0;", 4), 1, 0, 0, 1, 2, 3);
        // None comes: the lifts as it goes.
        leastIs(FOUR, 1, 6, -2, -2, -2, -2);
        leastIs(FOUR, 3, 0, -2);
        leastIs("person a 0 1 1;", 0, 0, -2);
        // Just full, and one too much; one on the other is one lift.
        leastIs("place seat 10;person a 0 1 1;piece a 5 0;piece a 5 0;", 0, 1, 0, 0, -2);
        leastIs("place seat 10;person a 0 1 1;piece a 5 0;piece a 6 0;", 0, -3, -3, -3);
        leastIs("place seat 10;person a 0 1 1;piece a 10 0;", 0, 0, 0, -2);
        leastIs("place seat 10;person a 0 1 1;piece a 11 0;", 0, -3, -3);
        leastIs("person a 0 1 1;piece a 1 0;", 0, -3, -3);
        // As far as it holds behind (1): a's goes at stop 1, or has no time.
        String change = "place seat 10;person a 0 1 9;person b 1 2 9;piece a 10 0;piece b 10 0;";
        leastIs(change, 1, 0, 0, -2);
        leastIs(change + "wait 1 1;", 1, -3, -3);
        leastIs(change + "wait 1 2;", 1, 0, 0);
        // The first of several by pieces, not by persons: b's lies under a's in any case, and a is out first.
        leastIs("place seat 99;place seat 99;person b 0 2 1;person a 0 1 1;piece a 9 0;piece b 9 0;", 0, 0, 0, 0, -2);
        // With as few lifts the first piece's place is the least: 0 and 1, not 1 and 0.
        leastIs("place seat 99;place seat 99;person a 0 1 1;person b 0 2 1;piece a 9 0;piece b 9 0;", 0, 0, 0, 1, -2);
        // As it goes: on the shelf it falls (50) and is lifted by nobody; with 49 it doesn't.
        String shelf = "place shelf 99;place seat 9;person a 0 1 1;person b 0 2 1;piece a 9 0;piece b 9 0;";
        leastIs(shelf + "law fall 50*(heavy<>9)+50*(above=0);", 0, 0, 0, 0);
        leastIs(shelf + "law fall 49;", 0, 0, 0, 1);
    }

    private static void mineIs(String text, int stop, int piece, int... due) {
        RackTrain x = Check.trainAt(stop, text);
        for (int what = 0; what < due.length; what++) {
            Check.due("mine(" + piece + ", " + what + ") at " + stop + " of " + text, x.mine(piece, what), due[what]);
        }
    }

    private void mineTerm() {
        sentences.about(16, "MINE for a PIECE that comes at this STOP, others by the rule: the PLACE by which its PERSON waits fewest SECONDS for "
                + "taking down theirs (as it goes), ALL: by which fewest LIFTS are made, the first of several each.");
        mineIs("place seat 10;place seat 10;person a 0 1 1;piece a 10 0;", 0, 0, 0, 11, 0, 0);
        mineIs("place seat 9;place seat 10;person a 0 1 1;piece a 10 0;", 0, 0, 1, 11, 1, 0);
        mineIs("place seat 9;place seat 9;person a 0 1 1;piece a 10 0;", 0, 0, -2, -2, -2, -2);
        mineIs("person a 0 1 1;piece a 10 0;", 0, 0, -2, -2, -2, -2);
        // Five places, of which all but the last are taken by the others, who get in ahead.
        mineIs(times("place seat 10;", 4) + "place seat 20;person b 0 1 1;person a 0 1 1;" + times("piece b 10 0;", 4) + "piece a 10 0;",
                0, 4, 4, 11, 4, 0);
        // Behind (1) there's room, or not in time.
        String change = "place seat 10;person a 0 1 9;person b 1 2 9;piece a 10 0;piece b 10 0;";
        mineIs(change, 1, 1, 0, 2, 0, 0);
        mineIs(change + "wait 1 1;", 1, 1, -2, -2, -2, -2);
        // Others by the rule: by last b's goes on place 1 and is lifted by a, if a's lies there.
        String other = "place seat 99;place seat 99;person a 0 1 1;person b 0 2 1;piece a 9 0;piece b 9 0;";
        mineIs(other, 0, 0, 1, 10, 1, 0);
        mineIs(other + "rule last;", 0, 0, 0, 10, 0, 0);
        // By light b's always goes to the other one: the first of both.
        mineIs(other + "rule light;", 0, 0, 0, 10, 0, 0);
        // In the shelf it falls as it goes (50), so it takes no seconds.
        mineIs("place seat 99;place shelf 99;person a 0 1 1;piece a 9 0;law fall 50;", 0, 0, 1, 0, 0, 0);
        mineIs("place seat 99;place shelf 99;person a 0 1 1;piece a 9 0;law fall 49;", 0, 0, 0, 10, 0, 0);
    }

    private void turnTerm() {
        sentences.about(12, "TURN of a PLACE: all in it so that who gets OUT first is on top (of like STOPS the lesser number on top).");
        RackTrain x = Check.trainAt(1, "place seat 99;person a 0 20 1;person b 0 1 1;person c 0 2 1;person d 0 1 1;"
                + "piece d 1 0;piece c 1 0;piece b 1 0;piece a 1 0;piece a 1 0;");
        // By persons from the bottom up 3 4 (a), 2 (b), 1 (c), 0 (d); then 4 3 (20), 1 (2), 2 0 (1).
        Check.due("all but c's move", x.turn(0), 4);
        int[] above = {0, 2, 1, 3, 4};
        for (int i = 0; i < 5; i++) {
            Check.due("above " + i, x.piece(i, 5), above[i]);
        }
    }

    private void whenTerm() {
        sentences.about(17, "WHEN for a PLACE: the STOP from now to 19 ahead of whose (1) it should be turned, so that LIFTS to the end and "
                + "PIECES that lie in it then are fewest in sum, of several the first; none, if that's no less than LIFTS without.");
        String one = "place seat 99;person a 0 9 9;";
        // n pieces of one: n * (n - 1) / 2 lifts without, n in sum when turned; of 3 that's no less.
        int[] due = {-2, -2, -2, -2, 1, 1, 1, 1, 1, 1, 1};
        for (int n = 0; n <= 10; n++) {
            RackTrain x = Check.train(one + times("piece a 1 0;", n));
            Check.due(n + " pieces", x.when(0, 0), due[n]);
            Check.due(n + " pieces, lifts", x.when(0, 1), n < 4 ? -2 : 0);
        }
        // From now on, up to 19.
        String late = "place seat 99;person a 0 19 9;" + times("piece a 1 0;", 4);
        for (int stop = 1; stop <= 19; stop++) {
            Check.due("at " + stop, Check.trainAt(stop, late).when(0, 0), stop);
        }
        Check.due("behind 19", Check.trainAt(20, late).when(0, 0), -2);
        Check.due("in at 18, turned ahead of 19", Check.train("place seat 99;person a 18 20 9;" + times("piece a 1 0;", 4)).when(0, 0), 19);
        Check.due("in at 19: not at 20", Check.train("place seat 99;person a 19 20 9;" + times("piece a 1 0;", 4)).when(0, 0), -2);
        Check.due("not at 20", Check.trainAt(20, "place seat 99;person a 0 20 9;" + times("piece a 1 0;", 4)).when(0, 0), -2);
        Check.due("over", Check.trainAt(21, late).when(0, 0), -2);
        // b's lies on top and goes at 1 without a lift: ahead of 2 one fewer is turned (4, not 5).
        RackTrain x = Check.train("place seat 99;person a 0 3 9;person b 0 1 9;" + times("piece a 1 0;", 4) + "piece b 1 0;");
        Check.due("where fewest lie", x.when(0, 0), 2);
        Check.due("lifts by it", x.when(0, 1), 0);
        // Turned ahead of 1, what comes on top at 1 is lifted for each of a's four at 2.
        RackTrain y = Check.train("place seat 99;person a 0 2 9;person b 1 3 9;" + times("piece a 1 0;", 4) + "piece b 1 0;");
        // Without 3 + 2 + 1 + 0 and 4; ahead of 1: 4 lifts and 4; ahead of 2: 0 and 5.
        Check.due("the fewest in sum", y.when(0, 0) * 10 + y.when(0, 1), 20);
    }

    private void choiceTerm() {
        sentences.about(18, "CHOICE of two PIECES that come at this STOP: each is stowed in a PLACE (5 at most; LEFT, if it HOLDS it no more): each "
                + "PERSON has the less, the more SECONDS taking down theirs takes as it goes from now on (999 more, if that PIECE is LEFT).");
        // a is out first and lies below b's, if in one place: all pairs of unlike places.
        String two = "person a 0 1 9;person b 0 2 9;piece a 9 0;piece b 9 0;";
        int[] due = {1, 1, 2, 6, 12, 20};
        for (int places = 1; places <= 5; places++) {
            RackTrain x = Check.train(times("place seat 99;", places) + two);
            Check.due(places + " places", x.rests(0, 1), due[places]);
        }
        Check.due("no places", Check.train(two).rests(0, 1), -1);
        // One place, just room for both, room for one, room for none: there's no other one, so it's a rest.
        for (int holds : new int[] {18, 17, 9, 8, 0}) {
            RackTrain x = Check.train("place seat " + holds + ";" + two);
            Check.due("holds " + holds, x.rests(0, 1) * 10 + x.rest(0, 1, 0), 10);
        }
        // Place 0 has room for one, place 1 for one: who is LEFT has 999 more, so each takes one.
        RackTrain each = Check.train("place seat 9;place seat 9;" + two);
        Check.due("each one", each.rests(0, 1), 2);
        Check.due("0 and 1", each.rest(0, 1, 0), 1);
        Check.due("1 and 0", each.rest(0, 1, 1), 10);
        // Place 0 has room for just one, place 1 for both: a below b's there would lift it, b never lifts.
        RackTrain both = Check.train("place seat 9;place seat 18;" + two);
        Check.due("0 1 and 1 0", both.rests(0, 1) * 10000 + both.rest(0, 1, 0) * 100 + both.rest(0, 1, 1), 20110);
        // LEFT in any place: all are alike for it; a's are then free of it.
        RackTrain left = Check.train("place seat 20;place seat 20;person a 0 1 9;person b 0 2 9;piece a 9 0;piece b 21 0;");
        Check.due("b's is left in any case", left.rests(0, 1), 4);
        // 98 seconds and less than 999 are better than LEFT, which takes none.
        RackTrain dear = Check.train("place seat 99;place seat 0;person a 0 1 1;person b 0 1 1;piece a 97 0;piece b 1 0;wait 1 200;");
        Check.due("dear, but not left", dear.rests(0, 1) * 100 + dear.rest(0, 1, 0), 100);
        // As it goes: what lies on top of the shelf falls (50) and takes no seconds; b's lies there above a's.
        RackTrain falls = Check.train("place seat 99;place shelf 99;" + two + "law fall 50;");
        // a in the shelf with b's there: b's falls at 0, a's stays to 1; b out of it: a's falls. b in the shelf falls.
        Check.due("b in the shelf always", falls.rests(0, 1) * 10000 + falls.rest(0, 1, 0) * 100 + falls.rest(0, 1, 1), 20111);
        lostIs999();
    }

    /**
     * Above a's eight light pieces, which take no seconds, lie piece 8 of a's (100 seconds) and b's piece 9: piece 8
     * in place 0 takes 9 * 100 and once as many as piece 9 takes; in place 1, which holds nothing, it is LEFT.
     */
    private static void lostIs999() {
        String text = "place seat 999;place seat 0;person a 0 1 1;person b 0 9 1;" + times("piece a 1 0 0;", 8) + "piece a 99 0;";
        String waits = "wait 1 999;wait 2 999;wait 9 999;";
        for (int seconds = 97; seconds <= 99; seconds++) {
            RackTrain x = Check.train(text + "piece b 50 0;" + waits + "law lift " + seconds + "*(heavy=50)+1/(heavy-99);");
            Check.due("900 and " + seconds, x.rests(8, 9), seconds == 99 ? 2 : 1);
            Check.due("not left", x.rest(8, 9, 0), 0);
            Check.due("just as well left", x.rest(8, 9, 1), seconds == 99 ? 10 : -2);
        }
        RackTrain more = Check.train(text + "piece b 99 0;" + waits + "law lift 1/(heavy-99);");
        Check.due("900 and 100", more.rests(8, 9), 1);
        Check.due("left is better", more.rest(8, 9, 0), 10);
    }

    private void restTerm() {
        sentences.about(19, "A REST: neither would have fewer by another PLACE alone. RESTS: by the first one's, then the second one's.");
        // As many is not fewer: nobody is ever lifted by another one here.
        RackTrain alike = Check.train("place seat 99;place seat 99;person b 0 2 9;person a 0 1 9;piece a 9 0;piece b 9 0;");
        int[] all = {0, 1, 10, 11};
        for (int k = 0; k < 4; k++) {
            Check.due("all, " + k, alike.rest(0, 1, k), all[k]);
        }
        Check.due("no fifth", alike.rest(0, 1, 4), -2);
        RackTrain five = Check.train(times("place seat 99;", 5) + "person a 0 1 9;person b 0 2 9;piece a 9 0;piece b 9 0;");
        int k = 0;
        for (int one = 0; one < 5; one++) {
            for (int other = 0; other < 5; other++) {
                if (one != other) {
                    Check.due("rest " + k, five.rest(0, 1, k), one * 10 + other);
                    Check.due("rest " + k + " the other way", five.rest(1, 0, k), one * 10 + other);
                    k++;
                }
            }
        }
        Check.due("20 in all", five.rest(0, 1, 20), -2);
        // None at all: a lies below b's and would be alone, b would be fallen on a's alone in the shelf.
        RackTrain none = Check.train("place shelf 99;place shelf 99;person a 0 1 9;person b 0 2 9;piece a 9 0;piece b 9 0;"
                + "law fall 50*(bears=18)*(heavy=9);");
        // In one place b's falls from the top: a lifts nothing, b takes none; apart b takes 2 seconds, a's are 2 in both.
        Check.due("b follows a", none.rests(0, 1), 2);
        Check.due("first", none.rest(0, 1, 0), 0);
        Check.due("second", none.rest(0, 1, 1), 11);
    }

    private void byRuleTerm() {
        sentences.about(20, "By a RULE: LIFTS as it goes from now on.");
        RackTrain x = Check.train(FOUR);
        Check.due("at 0", x.byRule(0), 6);
        x.go(2);
        Check.due("3 were made", x.count(5), 3);
        Check.due("from now on", x.byRule(0), 3);
        x.go(1);
        Check.due("none any more", x.byRule(0), 0);
        // Who gets in later goes by the rule asked, not by the one told; told places stay.
        String later = "place seat 99;place seat 99;person a 0 2 9;person b 1 3 9;piece a 9 0;piece b 9 0";
        RackTrain y = Check.trainAt(1, later + ";rule last;");
        Check.due("first: not on a's", y.byRule(0), 0);
        Check.due("light: not on a's", y.byRule(1), 0);
        Check.due("last: on a's", y.byRule(2), 1);
        RackTrain told = Check.trainAt(1, later + " 0;rule first;");
        Check.due("told, whatever the rule is", told.byRule(0) * 100 + told.byRule(1) * 10 + told.byRule(2), 111);
    }

    private void missedTerm() {
        sentences.about(22, "MISSED: the first PERSON (by STOPS from now on, then numbers) who isn't OUT behind (1) of the STOP told as it goes, and "
                + "how many SECONDS more than it has that STOP would need for all who get OUT then or should have ahead.");
        // a's takes 14 seconds in all at stop 1.
        int[][] rows = {{15, -2, -2}, {14, -2, -2}, {13, 0, 1}, {1, 0, 13}, {0, 0, 14}};
        for (int[] row : rows) {
            RackTrain x = Check.train(FOUR + "wait 1 " + row[0] + ";");
            Check.due("who, in " + row[0], x.missed(0), row[1]);
            Check.due("by how much, in " + row[0], x.missed(1), row[2]);
        }
        // c has no piece and is never late; who is late already is not told any more, but his seconds count.
        String late = FOUR + "person c 0 1 1;wait 1 0;wait 2 0;";
        RackTrain x = Check.trainAt(2, late);
        Check.due("b at 2", x.missed(0), 1);
        Check.due("a's 14 and b's 26", x.missed(1), 14 + 12 + 9 + 5);
        RackTrain y = Check.trainAt(3, late);
        Check.due("nobody any more", y.missed(0) * 10 + y.missed(1), -22);
        // By stops ahead of numbers: b gets out first.
        RackTrain z = Check.train("place seat 99;person a 0 2 1;person b 0 1 1;piece a 9 0;piece b 9 0;wait 1 0;wait 2 0;");
        Check.due("b first", z.missed(0) * 100 + z.missed(1), 110);
        // At 20 all get out; at 19 one may be late still.
        Check.due("at 20", Check.train("place seat 99;person a 0 20 1;piece a 60 0;").missed(0), -2);
        RackTrain at19 = Check.trainAt(19, "place seat 99;person a 0 19 1;piece a 60 0;");
        Check.due("at 19", at19.missed(0) * 100 + at19.missed(1), 1);
        // As it goes: what falls (50) needs no time.
        Check.due("fallen", Check.train("place net 99;person a 0 1 1;piece a 60 0;law fall 50;").missed(0), -2);
        Check.due("not fallen", Check.train("place net 99;person a 0 1 1;piece a 60 0;law fall 49;").missed(1), 1);
    }

    private void askingTerm() {
        sentences.about(24, "ASKING: how many LIFTS fewer are made as it goes, if all PLACES with nets and shelves were turned ahead of (1) of each "
                + "STOP from now on (0 at least).");
        String[] kinds = {"net", "shelf", "floor", "seat", "hall"};
        for (int i = 0; i < 5; i++) {
            RackTrain x = Check.train(FOUR.replace("seat", kinds[i]) + "law fall 0;law steal 0;");
            Check.due(kinds[i], x.asking(), i < 2 ? 6 : 0);
            x.go(1);
            Check.due(kinds[i] + " at 1", x.asking(), i < 2 ? 6 : 0);
            x.go(1);
            Check.due(kinds[i] + " at 2", x.asking(), i < 2 ? 3 : 0);
            x.go(1);
            Check.due(kinds[i] + " at 3", x.asking(), 0);
        }
        // Turned, b's lies above a's of the same stop, which a takes down first: one lift more, so 0.
        RackTrain worse = Check.train("place net 99;person a 1 3 9;person b 0 3 9;piece b 9 0;piece a 9 0;law fall 0;");
        Check.due("not below 0", worse.asking(), 0);
        // At stop 20, too.
        RackTrain last = Check.trainAt(20, "place net 99;person a 0 20 9;piece a 1 0;piece a 1 0;law fall 0;");
        Check.due("at 20", last.asking(), 1);
    }

    private void feetTerm() {
        sentences.about(25, "FEET: how many PIECES lie on floors behind (2) of each STOP from now to 20 as it goes, in sum.");
        String[] kinds = {"net", "shelf", "floor", "seat", "hall"};
        for (int i = 0; i < 5; i++) {
            RackTrain x = Check.train("place " + kinds[i] + " 99;person a 0 20 9;piece a 9 0;law fall 0;");
            Check.due(kinds[i], x.feet(), i == 2 ? 20 : 0);
        }
        RackTrain x = Check.train("place floor 99;place floor 99;person a 18 20 9;person b 19 20 9;piece a 1 0;piece b 1 0 1;piece b 1 0 1;");
        // At 18 one, at 19 three, at 20 none any more.
        Check.due("18, 19", x.feet(), 4);
        x.go(19);
        Check.due("19", x.feet(), 3);
        x.go(1);
        Check.due("20", x.feet(), 0);
        x.go(1);
        Check.due("over", x.feet(), 0);
        Check.due("the most", Check.train("place floor 999;person a 0 20 9;" + times("piece a 9 0;", 10)).feet(), 200);
    }

    private void seenTerm() {
        sentences.about(26, "SEEN, at most 24, numbered from 0 on: behind (2) of a STOP 0 .. 19 (as it goes from the TEXT on) a PIECE lay in a "
                + "PLACE, or not.");
        RackTrain x = Check.train("place seat 9;place seat 9;person a 0 20 9;piece a 1 0;");
        for (int i = 0; i < 24; i++) {
            Check.due("number", x.see(i % 20, 0, 0, true), i);
        }
        Check.refused(x, "a 25th", y -> y.see(0, 0, 0, true), -1);
        Check.due("in at 0", x.got(0), 1);
        // Behind (2): at the stop itself it lies there, at the one at which it is taken down no more.
        String text = "place seat 9;person a 3 6 9;piece a 1 0;";
        int[] due = {1, 3, 7, 15, 31, 63, 0};
        for (int stop = 0; stop < 7; stop++) {
            RackTrain y = Check.train(text);
            y.see(stop, 0, 0, true);
            Check.due("it lay there at " + stop, y.got(0), due[stop]);
            RackTrain z = Check.train(text);
            z.see(stop, 0, 0, false);
            Check.due("it didn't at " + stop, z.got(0), 63 & ~due[stop]);
        }
        // As it goes from the text on, whatever happened since.
        RackTrain since = Check.train("place seat 9;place seat 9;person a 0 6 9;piece a 1 0;");
        since.go(1);
        since.move(0, 1);
        since.see(1, 0, 0, true);
        Check.due("as if it weren't moved", since.got(0), 3);
        // Late for want of time, it lies there at its stop still.
        RackTrain late = Check.train("place seat 99;person a 0 6 9;piece a 90 0;wait 6 0;");
        late.see(6, 0, 0, true);
        Check.due("late", late.got(0), 63);
        Check.due("late at 19 as well", late.see(19, 0, 0, false), 1);
        Check.due("no more then", late.got(0), 63);
    }

    private void strikeTerm() {
        sentences.about(27, "A STRIKE of one.");
        RackTrain x = Check.train("place seat 9;person a 3 6 9;piece a 1 0;");
        Check.refused(x, "none yet", y -> y.strike(0), -1);
        x.see(0, 0, 0, true);
        x.see(1, 0, 0, true);
        Check.due("both", x.got(0), 1);
        Check.due("the first is struck", x.strike(0), 2);
        Check.due("the second alone", x.got(0), 3);
        Check.due("once more", x.strike(0), 3);
        Check.due("the same", x.got(0), 3);
        Check.due("one of the two strikes is struck", x.strike(2), 4);
        Check.due("the other one still strikes", x.got(0), 3);
        Check.due("that one, too", x.strike(3), 5);
        Check.due("both again", x.got(0), 1);
    }

    private void knownTerm() {
        sentences.about(28, "KNOWN by n (all at first): the first n that aren't STRUCK by one of these (a STRIKE may be STRUCK: then it doesn't count; "
                + "asked from the last one on).");
        RackTrain x = Check.train("place seat 9;person a 3 6 9;piece a 1 0;");
        x.see(0, 0, 0, true);
        // Strikes of strikes, one of the other: by n the last of them counts, the one ahead of it doesn't.
        for (int i = 0; i < 23; i++) {
            Check.due("strike " + i, x.strike(i), i + 1);
        }
        Check.refused(x, "there are 24", y -> y.strike(23), -1);
        Check.due("by all at first", x.got(0), 63);
        for (int n = 0; n <= 24; n++) {
            Check.due("by " + n, x.known(n), true);
            Check.due("got by " + n, x.got(0), n % 2 == 0 ? 63 : 1);
            Check.due("count by " + n, x.count(14), n);
        }
        Check.refused(x, "by 25", y -> y.known(25));
        // A strike that isn't among the first n strikes none of them.
        RackTrain y = Check.train("place seat 9;person a 3 6 9;piece a 1 0;");
        y.see(0, 0, 0, true);
        y.see(1, 0, 0, true);
        y.strike(0);
        Check.due("by 3", y.known(3), true);
        Check.due("struck", y.got(0), 3);
        Check.due("by 2", y.known(2), true);
        Check.due("not struck", y.got(0), 1);
        Check.due("by 0", y.known(0), true);
        Check.due("nothing", y.got(0), 63);
    }

    private void gotTerm() {
        sentences.about(29, "GOT: STOPS 0 .. 19 (bits) ahead of OUT at which a PERSON got IN, in place of the one told, by which all KNOWN ones are so.");
        RackTrain x = Check.train("place seat 9;person a 0 1 9;person b 0 20 9;person c 19 20 9;person d 5 19 9;piece b 1 0;");
        Check.due("out at 1", x.got(0), 1);
        Check.due("out at 20", x.got(1), (1 << 20) - 1);
        Check.due("in at 19", x.got(2), (1 << 20) - 1);
        Check.due("out at 19", x.got(3), (1 << 19) - 1);
        x.see(19, 0, 0, true);
        Check.due("in at 19 at the latest", x.got(1), (1 << 20) - 1);
        x.see(18, 0, 0, false);
        Check.due("at 19 alone", x.got(1), 1 << 19);
        // What isn't so of others: no stop of hers makes it so.
        Check.due("of a, whatever her stop is", x.got(0), 0);
        // The stop told is one of many: the one told needn't be so.
        RackTrain y = Check.train("place seat 9;person a 0 3 9;piece a 1 0;");
        y.see(0, 0, 0, false);
        Check.due("not the one told", y.got(0), 6);
        y.see(2, 0, 0, false);
        Check.due("none", y.got(0), 0);
    }

    private void triedTerm() {
        sentences.about(31, "TRIED to the end as it goes: 0 nothing falls, 1 nothing is stolen, 2 PERSON i isn't there (as one who never gets IN; if in "
                + "the train, theirs are OUT now), 3 all have STRENGTH 99, 4 curves are 0: LIFTS more.");
        String net = FOUR.replace("seat", "net");
        Check.due("0: by 50 all fall", Check.train(net + "law fall 50;").byRule(0), 2 + 0);
        Check.due("0: nothing falls", Check.train(net + "law fall 50;").tried(0, 0), 6);
        Check.due("0: by 100 neither", Check.train(net + "law fall 100;").tried(0, 0), 6);
        String hall = FOUR.replace("seat", "hall");
        Check.due("1: by 50 all are stolen", Check.train(hall + "law steal 50;").byRule(0), 0);
        Check.due("1: nothing is stolen", Check.train(hall + "law steal 50;").tried(1, 0), 6);
        RackTrain x = Check.train(FOUR);
        Check.due("2: a never gets in", x.tried(2, 0), 3);
        Check.due("2: b never gets in", x.tried(2, 1), 0);
        x.go(1);
        Check.due("2: a's is out now", x.tried(2, 0), 3);
        x.go(1);
        Check.due("2: a is out already", x.tried(2, 0), 3);
        // LIFTS more: those that were made aren't among them.
        Check.due("more", x.tried(0, 0), 3);
        x.go(19);
        for (int what = 0; what < 5; what++) {
            Check.due("over, " + what, x.tried(what, 0), 0);
        }
        // 3: who is too weak in time is late, and never lifts; strong ones take 1 or 2 seconds for each.
        RackTrain weak = Check.train("place seat 999;person a 0 1 1;person b 0 2 1;piece a 99 0;piece b 99 0;wait 1 4;");
        Check.due("weak", weak.byRule(0), 0);
        Check.due("3: strong", weak.tried(3, 0), 1);
        Check.due("3: not strong enough", Check.train("place seat 999;person a 0 1 1;person b 0 2 1;piece a 99 0;piece b 99 0;"
                + "wait 1 3;wait 2 0;wait 3 3;").tried(3, 0), 1);
        // 4: curve 90 and 10 less 50 is 50, without the curve 0; a law doesn't ask for curves.
        String curve = "place net 999;person a 0 1 9;person b 0 2 9;piece a 50 0;piece b 50 0;curve 90;";
        Check.due("4: falls by the curve", Check.train(curve).byRule(0), 0);
        Check.due("4: without", Check.train(curve).tried(4, 0), 1);
        Check.due("4: by a law as it was", Check.train(curve + "law fall 50*(above=0);").tried(4, 0), 0);
        // Nine below and weight 1: 89 without any curve.
        String high = "place net 999;person a 0 1 9;" + times("piece a 1 0;", 10) + "curve 0;law lift 0;";
        Check.due("4: high ones fall without a curve", Check.train(high).tried(4, 0), 36);
        // Six below: weight 10 is 50 without any curve, weight 11 is 49.
        String six = "place net 999;person a 0 1 9;" + times("piece a 99 0;", 6) + "curve 5;law lift 0;";
        Check.due("4: just 50", Check.train(six + "piece a 10 0;").tried(4, 0), 15);
        Check.due("4: just 49", Check.train(six + "piece a 11 0;").tried(4, 0), 21);
    }

    private void undoTerm() {
        sentences.about(32, "PIECES moved, stacks turned, STRENGTH helped by call can be undone, the latest first (20 at most), if no STOP went by since.");
        RackTrain x = Check.trainAt(1, "place seat 99;place seat 99;person a 0 9 9;piece a 1 0;piece a 1 0;piece a 1 0;");
        String[] ahead = new String[24];
        for (int i = 0; i < 24; i++) {
            ahead[i] = withoutUndo(x);
            boolean done = i % 3 == 0 ? x.help(0, 20 + i) : i % 3 == 1 ? x.move(i / 3 % 2, 1 - x.piece(i / 3 % 2, 4)) : x.help(0, 50 + i);
            Check.due("change " + i, done, true);
            Check.due("count " + i, x.count(15), Math.min(i + 1, 20));
        }
        for (int left = 19; left >= 0; left--) {
            Check.due("undone", x.undo(), left);
            Check.same("as it was, " + left, withoutUndo(x), ahead[4 + left]);
        }
        Check.refused(x, "no more", y -> y.undo(), -1);
        // Just 20: the first one of them, too.
        RackTrain just = Check.train("person a 0 9 99;");
        for (int i = 1; i <= 20; i++) {
            just.help(0, i);
        }
        for (int left = 19; left >= 0; left--) {
            Check.due("just 20", just.undo(), left);
        }
        Check.due("as told", Check.person(just, 0, 2), 99);
        // One behind 20: the first one stays done.
        RackTrain over = Check.train("person a 0 9 99;");
        for (int i = 1; i <= 21; i++) {
            over.help(0, i);
        }
        for (int left = 19; left >= 0; left--) {
            Check.due("one more", over.undo(), left);
        }
        Check.due("the first one stays", Check.person(over, 0, 2), 1);
        // A turn, and what a stop takes away.
        RackTrain y = Check.trainAt(1, FOUR);
        String stood = withoutUndo(y);
        Check.due("turned", y.turn(0), 4);
        y.go(0);
        Check.due("no stop went by", y.undo(), 0);
        Check.same("as it stood", withoutUndo(y), stood);
        y.turn(0);
        y.help(0, 1);
        y.go(1);
        Check.refused(y, "a stop went by", z -> z.undo(), -1);
        // A refused go is no stop.
        y.help(1, 1);
        y.go(21);
        Check.due("none went by", y.undo(), 0);
    }

    private static String withoutUndo(RackTrain x) {
        StringBuilder s = new StringBuilder();
        for (int i = 0; i < x.count(1); i++) {
            s.append(" person ").append(Check.person(x, i, 2));
        }
        for (int i = 0; i < x.count(2); i++) {
            s.append(" piece ").append(x.piece(i, 3)).append(' ').append(x.piece(i, 4)).append(' ').append(x.piece(i, 5));
        }
        for (int i = 0; i < x.count(0); i++) {
            s.append(" place ").append(x.place(i, 2)).append(' ').append(x.place(i, 3)).append(' ').append(x.place(i, 4));
        }
        return s.toString();
    }

    private void imageTerm() {
        sentences.about(33, "An IMAGE keeps all but what was SEEN.");
        String text = "place net 99;place hall 99;place seat 9;person a 0 3 9;person b 2 20 9;person c 5 6 9;piece a 1 0 0;piece a 1 0 0;piece b 1 0 1;"
                + "piece b 1 0 1;piece b 9 0 2;piece c 1 0 2;law fall 30;law steal 30;seed 4;";
        for (int stop = 0; stop <= 21; stop++) {
            RackTrain x = Check.trainAt(stop, text);
            x.help(0, 77);
            x.turn(1);
            RackTrain twin = Check.trainAt(stop, text);
            twin.help(0, 77);
            twin.turn(1);
            Check.due("kept at " + stop, x.keep(), stop);
            Check.same("keeping changes nothing", Check.all(x), Check.all(twin));
            x.help(1, 33);
            x.move(0, 2);
            x.go((21 - stop) / 2);
            x.see(0, 0, 0, true);
            twin.see(0, 0, 0, true);
            x.go(21 - x.count(4));
            Check.due("back at " + stop, x.back(), stop);
            Check.due("nothing to undo", x.count(15), 0);
            Check.due("what was seen stays", x.count(13), 1);
            Check.same("as it was at " + stop, withoutUndo(x), withoutUndo(twin));
            for (int next = stop; next < 21; next++) {
                x.go(1);
                twin.go(1);
                Check.same("it goes on in the same way from " + next, Check.all(x), Check.all(twin));
            }
        }
    }

    // ---- promises 15 to 35

    private void least() {
        sentences.about(15, "LEAST, what 0: LIFTS to the end, 1 .. 4: the PLACE of the first of these PIECES, and so on (-2: not so many). -3: it can't "
                + "be; -4: more than 4 PIECES come; NONE: another what, it is over.");
        for (int pieces = 0; pieces <= 6; pieces++) {
            RackTrain x = Check.train(times("place seat 9;", 5) + "person a 0 1 1;person b 0 1 1;" + times("piece b 9 0;", pieces));
            Check.refused(x, "0 of " + pieces, y -> y.least(0), pieces > 4 ? -4 : 0);
            for (int what = 1; what <= 4; what++) {
                int asked = what;
                Check.refused(x, what + " of " + pieces, y -> y.least(asked), pieces > 4 ? -4 : what > pieces ? -2 : what - 1);
            }
            for (int what : new int[] {-1, 5, MIN, MAX}) {
                Check.refused(x, what + " of " + pieces, y -> y.least(what), -1);
            }
        }
        // Six of the heaviest, but only five places: the last of four goes on another one's.
        RackTrain full = Check.train(times("place seat 9;", 3) + "person a 0 1 1;" + times("piece a 9 0;", 4));
        Check.due("it can't be", full.least(0), -3);
        Check.due("it can't be, 4", full.least(4), -3);
        RackTrain over = Check.trainAt(21, FOUR);
        for (int what = 0; what <= 4; what++) {
            int asked = what;
            Check.refused(over, "over", y -> y.least(asked), -1);
        }
        RackTrain last = Check.trainAt(20, "place seat 99;person a 0 20 9;piece a 9 0;piece a 9 0;");
        Check.due("at 20", last.least(0), 1);
        Check.due("nobody gets in at 20", last.least(1), -2);
    }

    private void mine() {
        sentences.about(16, "MINE (what 0: the PLACE, 1: SECONDS), ALL (2: the PLACE, 3: LIFTS). -2: in none; NONE: no such ones, it doesn't come at this STOP.");
        RackTrain x = Check.train("place seat 99;place seat 5;person a 1 2 9;person b 0 5 9;person c 2 5 9;piece a 9 0;piece b 9 0;piece c 9 0;piece a 99 0 1;");
        int[] comes = {1, 0, 2, 1};
        for (int stop = 0; stop <= 21; stop++) {
            for (int piece = 0; piece < 4; piece++) {
                for (int what = 0; what < 4; what++) {
                    int p = piece;
                    int w = what;
                    String ahead = Check.all(x);
                    int answer = x.mine(p, w);
                    Check.same("nothing changes", Check.all(x), ahead);
                    Check.due("piece " + piece + " at " + stop, answer == -1, stop != comes[piece]);
                }
            }
            for (int wrong : new int[] {-1, 4, MIN, MAX}) {
                Check.due("what " + wrong, x.mine(1, wrong), -1);
                Check.due("piece " + wrong, x.mine(wrong, 0), -1);
            }
            x.go(stop < 21 ? 1 : 0);
        }
        RackTrain none = Check.train("place seat 9;person a 0 5 9;piece a 10 0;piece a 9 0;");
        for (int what = 0; what < 4; what++) {
            Check.due("in none", none.mine(0, what), -2);
            Check.due("in one", none.mine(1, what) >= 0, true);
        }
        Check.due("what 4 in none", none.mine(0, 4), -1);
        Check.due("none at all", new RackTrain().mine(0, 0), -1);
    }

    private void when() {
        sentences.about(17, "WHEN, what 0: the STOP, 1: LIFTS to the end by it (without the turning itself). -2: none; NONE: no such ones.");
        RackTrain x = Check.train(FOUR + "place seat 9;");
        Check.refused(x, "the stop", y -> y.when(0, 0), 1);
        Check.refused(x, "lifts", y -> y.when(0, 1), 0);
        Check.refused(x, "none", y -> y.when(1, 0), -2);
        Check.refused(x, "no lifts", y -> y.when(1, 1), -2);
        for (int wrong : new int[] {-1, 2, 5, MIN, MAX}) {
            Check.refused(x, "place " + wrong, y -> y.when(wrong, 0), -1);
            Check.refused(x, "what " + wrong, y -> y.when(0, wrong), -1);
        }
        x.go(21);
        Check.refused(x, "over", y -> y.when(0, 0), -2);
        Check.refused(x, "over, what 2", y -> y.when(0, 2), -1);
        Check.due("none at all", new RackTrain().when(0, 0), -1);
    }

    private void rests() {
        sentences.about(18, "How many RESTS CHOICE has; NONE: no such ones, alike, of one PERSON, they don't both come at this STOP, no PLACES.");
        String text = "person a 0 1 9;person b 0 2 9;person c 1 2 9;piece a 9 0;piece b 9 0;piece c 9 0;piece a 9 0;";
        RackTrain x = Check.train("place seat 99;" + text);
        for (int one = -1; one <= 4; one++) {
            for (int other = -1; other <= 4; other++) {
                boolean fine = one >= 0 && other >= 0 && (one == 1 && (other == 0 || other == 3) || other == 1 && (one == 0 || one == 3));
                int i = one;
                int k = other;
                Check.refused(x, one + " and " + other, y -> y.rests(i, k), fine ? 1 : -1);
                Check.refused(x, one + " and " + other + ", the first", y -> y.rest(i, k, 0), fine ? 0 : -1);
            }
        }
        for (int wrong : new int[] {10, MIN, MAX}) {
            Check.refused(x, "piece " + wrong, y -> y.rests(0, wrong), -1);
            Check.refused(x, "piece " + wrong + " first", y -> y.rests(wrong, 1), -1);
        }
        x.go(1);
        Check.refused(x, "they came", y -> y.rests(0, 1), -1);
        Check.refused(x, "one of them comes", y -> y.rests(0, 2), -1);
        x.go(20);
        Check.refused(x, "over", y -> y.rests(0, 1), -1);
        Check.refused(Check.train(text), "no places", y -> y.rests(0, 1), -1);
        Check.refused(new RackTrain(), "none at all", y -> y.rests(0, 1), -1);
    }

    private void rest() {
        sentences.about(19, "The k-th: ten times the first one's PLACE and the second one's; -2: there are no so many; NONE likewise, k is below 0.");
        RackTrain x = Check.train("place seat 99;place seat 99;person a 0 1 9;person b 0 2 9;piece a 9 0;piece b 9 0;");
        Check.refused(x, "0", y -> y.rest(0, 1, 0), 1);
        Check.refused(x, "1", y -> y.rest(0, 1, 1), 10);
        for (int k : new int[] {2, 3, 25, MAX}) {
            Check.refused(x, "the " + k, y -> y.rest(0, 1, k), -2);
        }
        for (int k : new int[] {-1, -2, MIN}) {
            Check.refused(x, "the " + k, y -> y.rest(0, 1, k), -1);
        }
        for (int k : new int[] {-1, 0, 99}) {
            Check.refused(x, "alike, " + k, y -> y.rest(0, 0, k), -1);
            Check.refused(x, "piece 2, " + k, y -> y.rest(0, 2, k), -1);
        }
        Check.refused(Check.trainAt(1, FOUR), "they came", y -> y.rest(0, 1, 0), -1);
    }

    private void byRule() {
        sentences.about(20, "By a RULE 0 .. 2: LIFTS to the end; NONE: no such one.");
        RackTrain x = Check.train(FOUR + "rule light;");
        for (int rule = 0; rule < 3; rule++) {
            int asked = rule;
            Check.refused(x, "rule " + rule, y -> y.byRule(asked), 6);
        }
        for (int wrong : new int[] {-1, 3, MIN, MAX}) {
            Check.refused(x, "rule " + wrong, y -> y.byRule(wrong), -1);
        }
        x.go(21);
        Check.refused(x, "over", y -> y.byRule(2), 0);
        Check.refused(x, "over, no such one", y -> y.byRule(3), -1);
    }

    private void bestRule() {
        sentences.about(21, "The RULE with the fewest LIFTS, the first of several.");
        Check.refused(Check.train(FOUR + "rule last;"), "all alike", y -> y.bestRule(), 0);
        // Two places: by first and last all in one (3 lifts), by light two in one (1 lift).
        RackTrain light = Check.train("place seat 99;place seat 99;person a 0 1 9;piece a 9 0;piece a 9 0;piece a 9 0;");
        Check.refused(light, "light alone", y -> y.bestRule(), 1);
        // first and light: on a's; last: not.
        RackTrain last = Check.train("place seat 9;place seat 99;place seat 99;person a 0 1 9;person b 0 2 9;piece a 10 0 1;piece b 12 0 2;piece b 10 0;"
                + "law lift 0;");
        Check.due("first, light, last", last.byRule(0) * 100 + last.byRule(1) * 10 + last.byRule(2), 111);
        Check.due("the first of three", last.bestRule(), 0);
        RackTrain only = Check.train("place seat 99;place seat 99;person a 0 1 9;person b 0 2 9;person c 0 1 9;piece a 5 0 0;piece b 9 0 1;piece c 1 0;");
        Check.due("last alone", only.bestRule(), 2);
        Check.refused(new RackTrain(), "nothing at all", y -> y.bestRule(), 0);
        Check.refused(Check.trainAt(21, FOUR), "over", y -> y.bestRule(), 0);
    }

    private void missed() {
        sentences.about(22, "MISSED, what 0: the PERSON, 1: SECONDS more. -2: nobody; NONE for another what.");
        RackTrain x = Check.train(FOUR + "wait 1 13;");
        Check.refused(x, "who", y -> y.missed(0), 0);
        Check.refused(x, "by how much", y -> y.missed(1), 1);
        for (int what : new int[] {-1, 2, MIN, MAX}) {
            Check.refused(x, "what " + what, y -> y.missed(what), -1);
            Check.refused(new RackTrain(), "what " + what + " of nothing", y -> y.missed(what), -1);
        }
        x.go(21);
        Check.refused(x, "over", y -> y.missed(0), -2);
        Check.refused(x, "over, seconds", y -> y.missed(1), -2);
        Check.refused(x, "over, what 2", y -> y.missed(2), -1);
        Check.refused(new RackTrain(), "nothing at all", y -> y.missed(0), -2);
    }

    private void falls() {
        sentences.about(23, "What FALLS on the way behind this STOP as it goes (bits).");
        // Ten pieces in five racks, all that lie on top fall: 5 .. 9.
        StringBuilder ten = new StringBuilder();
        for (int i = 0; i < 10; i++) {
            ten.append("piece a 1 0 ").append(i % 5).append(';');
        }
        String racks = "place net 99;place shelf 99;place net 99;place shelf 99;place net 99;person a 0 20 9;";
        RackTrain x = Check.train(racks + ten + "law fall 50;");
        Check.refused(x, "the upper five", y -> y.falls(), 0x3e0);
        RackTrain late = Check.trainAt(19, racks + ten + "law fall 50*(stop=19);");
        Check.refused(late, "behind 19", y -> y.falls(), 0x3e0);
        late.go(1);
        Check.refused(late, "behind 20 nothing is there", y -> y.falls(), 0);
        late.go(1);
        Check.refused(late, "over", y -> y.falls(), 0);
        Check.refused(new RackTrain(), "nothing at all", y -> y.falls(), 0);
        Check.refused(Check.train(racks + ten + "law fall 49;"), "49", y -> y.falls(), 0);
    }

    private void asking() {
        sentences.about(24, "ASKING.");
        Check.refused(Check.train(FOUR.replace("seat", "net") + "law fall 0;"), "six", y -> y.asking(), 6);
        Check.refused(new RackTrain(), "nothing at all", y -> y.asking(), 0);
        Check.refused(Check.trainAt(21, FOUR), "over", y -> y.asking(), 0);
    }

    private void feet() {
        sentences.about(25, "FEET.");
        Check.refused(Check.train("place floor 9;person a 0 1 9;piece a 9 0;"), "one", y -> y.feet(), 1);
        Check.refused(new RackTrain(), "nothing at all", y -> y.feet(), 0);
    }

    private void see() {
        sentences.about(26, "SEEN: its number; NONE: no such ones, or there are 24.");
        RackTrain x = Check.train("place seat 9;place seat 9;person a 0 20 9;piece a 1 0;piece a 1 0;piece a 1 0;");
        for (int wrong : new int[] {-1, 20, 21, MIN, MAX}) {
            Check.refused(x, "stop " + wrong, y -> y.see(wrong, 0, 0, true), -1);
        }
        for (int wrong : new int[] {-1, 3, 10, MIN, MAX}) {
            Check.refused(x, "piece " + wrong, y -> y.see(0, wrong, 0, false), -1);
        }
        for (int wrong : new int[] {-1, 2, 5, MIN, MAX}) {
            Check.refused(x, "place " + wrong, y -> y.see(0, 0, wrong, false), -1);
        }
        Check.due("the last ones", x.see(19, 2, 1, false), 0);
        Check.due("the first ones", x.see(0, 0, 0, true), 1);
        x.go(21);
        Check.due("also when it is over", x.see(0, 0, 0, true), 2);
        for (int i = 3; i < 24; i++) {
            Check.due("number", i % 2 == 0 ? x.see(0, 0, 0, true) : x.strike(i - 1), i);
        }
        Check.refused(x, "there are 24", y -> y.see(0, 0, 0, true), -1);
        Check.refused(new RackTrain(), "nothing at all", y -> y.see(0, 0, 0, true), -1);
    }

    private void strike() {
        sentences.about(27, "A STRIKE: its number; NONE: no such one SEEN, or there are 24.");
        RackTrain x = Check.train("place seat 9;person a 0 20 9;piece a 1 0;");
        for (int wrong : new int[] {-1, 0, 1, 24, MIN, MAX}) {
            Check.refused(x, "none seen, " + wrong, y -> y.strike(wrong), -1);
        }
        x.see(5, 0, 0, true);
        for (int wrong : new int[] {-1, 1, 2, 24, MIN, MAX}) {
            Check.refused(x, "one seen, " + wrong, y -> y.strike(wrong), -1);
        }
        for (int i = 1; i < 24; i++) {
            Check.due("number", x.strike(0), i);
        }
        Check.refused(x, "there are 24", y -> y.strike(0), -1);
        Check.due("24", x.count(13), 24);
    }

    private void known() {
        sentences.about(28, "KNOWN by n from now on (-1: by all, also those to come): true; false: no such n.");
        RackTrain x = Check.train("place seat 9;person a 3 6 9;piece a 1 0;");
        for (int wrong : new int[] {-2, 1, 24, MIN, MAX}) {
            Check.refused(x, "none seen, " + wrong, y -> y.known(wrong));
        }
        Check.due("0 of 0", x.known(0), true);
        x.see(0, 0, 0, true);
        Check.due("not those to come", x.count(14), 0);
        Check.due("1 of 1", x.known(1), true);
        Check.refused(x, "2 of 1", y -> y.known(2));
        x.see(1, 0, 0, true);
        Check.due("not those to come either", x.count(14), 1);
        Check.refused(x, "-2", y -> y.known(-2));
        Check.due("still by 1", x.count(14), 1);
        Check.due("by all", x.known(-1), true);
        Check.due("2", x.count(14), 2);
        x.see(2, 0, 0, false);
        Check.due("also those to come", x.count(14), 3);
        Check.due("they can't all be", x.got(0), 0);
        for (int i = 3; i < 24; i++) {
            x.strike(2);
        }
        Check.due("24 of 24", x.known(24), true);
        Check.refused(x, "25 of 24", y -> y.known(25));
    }

    private void got() {
        sentences.about(29, "GOT (bits); NONE: no such PERSON.");
        RackTrain x = Check.train("place seat 9;person a 0 1 9;person b 0 20 9;");
        Check.refused(x, "a", y -> y.got(0), 1);
        Check.refused(x, "b", y -> y.got(1), (1 << 20) - 1);
        for (int wrong : new int[] {-1, 2, 6, MIN, MAX}) {
            Check.refused(x, "person " + wrong, y -> y.got(wrong), -1);
        }
        x.go(21);
        Check.refused(x, "also when it is over", y -> y.got(1), (1 << 20) - 1);
        Check.due("nobody at all", new RackTrain().got(0), -1);
    }

    private void chance() {
        sentences.about(30, "In how many of ten times drawn (numbers from a seed 0 .. 2147483647 on, one behind another; to the end) a PIECE is OUT then; "
                + "NONE: no such ones.");
        String text = "place net 9;person a 0 1 9;piece a 9 0;";
        RackTrain x = Check.train(text + "law fall 40;seed 77;");
        for (int seed : new int[] {0, 1, 99999, 100000, 1 << 30, MAX - 1, MAX}) {
            long[] last = {seed};
            int due = 0;
            for (int i = 0; i < 10; i++) {
                due += 40 > Check.number(last) ? 0 : 1;
            }
            int wanted = due;
            Check.refused(x, "seed " + seed, y -> y.chance(seed, 0), wanted);
        }
        for (int seed : new int[] {-1, -2, MIN}) {
            Check.refused(x, "seed " + seed, y -> y.chance(seed, 0), -1);
        }
        for (int piece : new int[] {-1, 1, 10, MIN, MAX}) {
            Check.refused(x, "piece " + piece, y -> y.chance(0, piece), -1);
        }
        Check.due("ten", Check.train(text + "law fall 0;").chance(5, 0), 10);
        Check.due("none", Check.train(text + "law fall 100;").chance(5, 0), 0);
        Check.due("out already", Check.trainAt(21, text + "law fall 0;").chance(5, 0), 10);
        Check.due("fallen already", Check.trainAt(21, text + "law fall 100;").chance(5, 0), 0);
        Check.due("left for want of time", Check.train("place seat 99;person a 0 20 1;piece a 60 0;").chance(5, 0), 0);
        Check.due("just in time", Check.train("place seat 99;person a 0 20 1;piece a 59 0;").chance(5, 0), 10);
        Check.due("none at all", new RackTrain().chance(0, 0), -1);
    }

    private void tried() {
        sentences.about(31, "TRIED; NONE: no such ones (i 0 of all but 2).");
        RackTrain x = Check.train(FOUR);
        int[] due = {6, 6, 3, 6, 6};
        for (int what = 0; what < 5; what++) {
            int asked = what;
            Check.refused(x, "tried " + what, y -> y.tried(asked, 0), due[what]);
            for (int i : new int[] {-1, 1, 2, 6, MIN, MAX}) {
                Check.refused(x, "tried " + what + ", " + i, y -> y.tried(asked, i), what == 2 && i == 1 ? 0 : -1);
            }
        }
        for (int what : new int[] {-1, 5, MIN, MAX}) {
            Check.refused(x, "tried " + what, y -> y.tried(what, 0), -1);
        }
        Check.due("nobody", new RackTrain().tried(2, 0), -1);
        Check.due("nothing", new RackTrain().tried(3, 0), 0);
    }

    private void undo() {
        sentences.about(32, "The latest is undone: how many are left; NONE: none.");
        RackTrain x = Check.train("person a 0 9 1;");
        Check.refused(x, "none", y -> y.undo(), -1);
        x.help(0, 2);
        x.help(0, 3);
        Check.due("one is left", x.undo(), 1);
        Check.due("2", Check.person(x, 0, 2), 2);
        Check.due("none is left", x.undo(), 0);
        Check.due("1", Check.person(x, 0, 2), 1);
        Check.refused(x, "none again", y -> y.undo(), -1);
        // What was refused isn't there to be undone; what is undone isn't either.
        x.help(0, 1);
        x.help(0, 100);
        x.move(0, 0);
        x.turn(0);
        Check.refused(x, "refused ones", y -> y.undo(), -1);
        x.help(0, 2);
        Check.say(x, "place");
        Check.due("a text with a fault", x.undo(), 0);
        Check.refused(new RackTrain(), "nothing at all", y -> y.undo(), -1);
    }

    private void keep() {
        sentences.about(33, "An IMAGE is kept (in place of one ahead): which STOP comes next.");
        RackTrain x = Check.train(FOUR);
        for (int stop = 0; stop <= 21; stop++) {
            Check.refused(x, "keep", y -> y.keep(), stop);
            x.go(stop < 21 ? 1 : 0);
        }
        Check.due("the last one alone", x.back(), 21);
        Check.due("of nothing", new RackTrain().keep(), 0);
    }

    private void back() {
        sentences.about(34, "All (but what was SEEN) is as in the IMAGE (nothing to undo then): which STOP comes next; NONE: there is none.");
        RackTrain x = Check.train(FOUR);
        Check.refused(x, "none", y -> y.back(), -1);
        x.help(0, 11);
        x.keep();
        Check.due("that can be undone still", x.count(15), 1);
        Check.due("back at once", x.back(), 0);
        Check.due("no more", x.count(15), 0);
        Check.due("as kept", Check.person(x, 0, 2), 11);
        x.go(21);
        Check.due("from the end", x.back(), 0);
        Check.due("again", x.back(), 0);
        Check.due("it goes on", x.go(2), 2);
        Check.due("lifts", x.count(5), 3);
        Check.say(x, "place net 1000;");
        Check.due("behind a fault", x.back(), 0);
        Check.due("no lifts", x.count(5), 0);
        Check.say(x, FOUR);
        Check.refused(x, "none in a new text", y -> y.back(), -1);
    }

    private void count() {
        sentences.about(35, "0 PLACES, 1 PERSONS, 2 PIECES, 3 KNOTS, 4 which STOP comes next, 5 LIFTS, 6 PIECES in PLACES, 7 OUT, 8 FALLEN, 9 STOLEN, "
                + "10 LEFT, 11 PERSONS in the train, 12 the rule, 13 SEEN, 14 by how many it is KNOWN, 15 what can be undone. NONE for another what.");
        RackTrain none = new RackTrain();
        for (int what = 0; what <= 15; what++) {
            Check.due("nothing, " + what, none.count(what), 0);
        }
        for (int what : new int[] {-1, 16, MIN, MAX}) {
            Check.refused(none, "what " + what, y -> y.count(what), -1);
        }
        // All full: five places, six persons, ten pieces, 64 knots, 24 seen, 20 to undo.
        StringBuilder text = new StringBuilder("rule last;" + times("place seat 999;", 5));
        for (char c = 'a'; c < 'g'; c++) {
            text.append("person ").append(c).append(" 0 1 1;");
        }
        text.append(times("piece a 9 0;", 10)).append("law lift 0*(").append(times("1+", 29)).append("1);law fall not 1;");
        RackTrain x = Check.trainAt(1, text.toString());
        for (int i = 0; i < 24; i++) {
            x.see(0, 0, 0, true);
        }
        for (int i = 2; i < 30; i++) {
            x.help(0, i);
        }
        int[] full = {5, 6, 10, 63, 1, 0, 10, 0, 0, 0, 0, 6, 2, 24, 24, 20};
        for (int what = 0; what <= 15; what++) {
            Check.due("all full, " + what, x.count(what), full[what]);
        }
        x.go(20);
        int[] over = {5, 6, 10, 63, 21, 45, 0, 10, 0, 0, 0, 0, 2, 24, 24, 0};
        for (int what = 0; what <= 15; what++) {
            Check.due("over, " + what, x.count(what), over[what]);
        }
    }

    /** Questions and refused calls leave also the numbers that are drawn later as they were. */
    private void nothingElseChanges() {
        Check.promise(0);
        String text = "place net 99;place hall 99;place seat 30;person a 0 3 9;person b 2 20 9;person c 5 6 9;piece a 1 0 0;piece a 1 0 0;piece b 1 0 1;"
                + "piece b 1 0 1;piece b 9 0 2;piece c 1 0;law fall 30;law steal 30;";
        for (int seed = 0; seed < 5; seed++) {
            RackTrain x = Check.train(text + "seed " + seed + ";");
            RackTrain twin = Check.train(text + "seed " + seed + ";");
            for (int stop = 0; stop <= 21; stop++) {
                askAll(x);
                Check.same("nothing changes at " + stop, Check.all(x), Check.all(twin));
                x.go(stop < 21 ? 1 : 0);
                twin.go(stop < 21 ? 1 : 0);
            }
        }
        // What the 513th call answers is free, but it answers.
        RackTrain many = Check.train(text);
        for (int i = 0; i < 2000; i++) {
            many.help(0, 1 + i % 99);
            many.see(0, 0, 0, true);
        }
        Check.due("still there", many.count(13), 24);
    }

    private static void askAll(RackTrain x) {
        for (int i = -1; i < 7; i++) {
            x.named(i);
            x.waits(i);
            x.least(i);
            x.byRule(i);
            x.missed(i);
            x.got(i);
            for (int k = -1; k < 7; k++) {
                x.mine(i, k);
                x.when(i, k);
                x.rests(i, k);
                x.rest(i, k, 0);
                x.chance(i + 5, k);
                x.tried(i, k);
                x.law(i, k);
                x.place(i, k);
                x.piece(i, k);
            }
            x.move(i, 7);
            x.move(9, i);
            x.help(i, 100);
            x.help(-1, i);
            x.strike(i);
            x.see(20, i, i, true);
        }
        x.turn(3);
        x.go(-1);
        x.go(22);
        x.bestRule();
        x.falls();
        x.asking();
        x.feet();
        x.text(-1);
        x.text(1);
        x.undo();
        x.back();
        x.known(1);
        x.known(-2);
    }
}
