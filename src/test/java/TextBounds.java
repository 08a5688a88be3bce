/** Where the language of a TEXT ends (part 1 of the terms), and promises 1 to 5: a method for each sentence. */
final class TextBounds {
    private static final int MAX = Integer.MAX_VALUE;
    private static final int MIN = Integer.MIN_VALUE;
    private static final String PERSON = "person a 0 1 1;";
    private static final String[] WORDS = {"place", "person", "piece", "wait", "rule", "curve", "seed", "law", "net",
        "shelf", "floor", "seat", "hall", "first", "light", "last", "lift", "fall", "steal", "or", "and", "not",
        "heavy", "frail", "above", "kind", "able", "stop", "bears"};
    private static final String NAMES = " heavy frail above kind able stop bears ";

    private final Sentences sentences;

    TextBounds(Sentences sentences) {
        this.sentences = sentences;
    }

    void run() {
        texts();
        lines();
        kindsRulesLaws();
        words();
        blanks();
        formulas();
        numbersOfFormulas();
        names();
        signs();
        places();
        persons();
        pieces();
        waits();
        ruleCurveSeed();
        numbering();
        firstFault();
        wrongTokens();
        tooMuch();
        openBrackets();
        knots();
        toldAlready();
        notToldAhead();
        newObject();
        feed();
        textCall();
        refusedTexts();
        faultCall();
        named();
    }

    private static String times(String s, int n) {
        return s.repeat(n);
    }

    private static String sixPersons() {
        StringBuilder s = new StringBuilder();
        for (char c = 'a'; c < 'g'; c++) {
            s.append("person ").append(c).append(" 0 1 1;");
        }
        return s.toString();
    }

    private static String tenWaits() {
        StringBuilder s = new StringBuilder();
        for (int i = 0; i < 10; i++) {
            s.append("wait ").append(i).append(" 1;");
        }
        return s.toString();
    }

    // ---- the language

    private void texts() {
        sentences.about(3, "A TEXT: { LINE ';' }.");
        Check.lines("", 0);
        Check.lines("rule first;", 1);
        Check.fault("rule first", 1, 10);
        Check.fault(";", 1, 0);
        Check.fault("rule first;;", 1, 11);
        Check.lines("seed 1;curve 1;rule last;" + tenWaits(), 13);
    }

    private void lines() {
        sentences.about(3, "LINE: place KIND N | person W N N N | piece W N N [ N ] | wait N N | rule RULE | curve N | "
                + "seed N | law LAW E.");
        String ahead = "place net 9;" + PERSON;
        String[] right = {"place net 1;", "person b 0 1 1;", "piece a 1 0;", "piece a 1 0 0;", "wait 0 1;", "rule last;",
            "curve 1;", "seed 1;", "law lift 1;"};
        for (String line : right) {
            Check.lines(ahead + line, 3);
            int end = ahead.length() + line.length() - 1;
            String open = line.substring(0, line.length() - 1);
            boolean mayGoOn = line.equals("piece a 1 0;");
            // One token more, one fewer, and nothing behind the word of the line.
            Check.fault(ahead + open + (mayGoOn ? " 0 0;" : " 0;"), 1, end + (mayGoOn ? 3 : 1));
            Check.fault(ahead + open, 1, end);
            if (!line.equals("piece a 1 0 0;")) {
                int shorter = ahead.length() + open.lastIndexOf(' ');
                Check.fault(ahead + open.substring(0, open.lastIndexOf(' ')) + ";", 1, shorter);
            }
            int word = ahead.length() + line.indexOf(' ');
            Check.fault(ahead + line.substring(0, line.indexOf(' ')) + ";", 1, word);
            Check.fault(ahead + line.substring(0, line.indexOf(' ')), 1, word);
        }
        Check.fault(ahead + "piece a 1 0 ;0", 1, ahead.length() + 13);
    }

    private void kindsRulesLaws() {
        sentences.about(3, "KIND: net | shelf | floor | seat | hall. RULE: first | light | last. LAW: lift | fall | steal.");
        for (String word : WORDS) {
            boolean kind = " net shelf floor seat hall ".contains(" " + word + " ");
            boolean rule = " first light last ".contains(" " + word + " ");
            boolean law = " lift fall steal ".contains(" " + word + " ");
            right(kind, "place ", word, " 1;");
            right(rule, "rule ", word, ";");
            right(law, "law ", word, " 1;");
        }
        right(false, "place ", "nets", " 1;");
        right(false, "rule ", "firs", ";");
        right(false, "law ", "steals", " 1;");
    }

    private static void right(boolean right, String ahead, String word, String behind) {
        if (right) {
            Check.lines(ahead + word + behind, 1);
        } else {
            Check.fault(ahead + word + behind, 1, ahead.length());
        }
    }

    private void words() {
        sentences.about(3, "Words: small letters in a row; W: one of 1 .. 6 letters, none of those of the language; N: digits.");
        Check.lines("person a 0 1 1;person z 0 1 1;person abcdef 0 1 1;person zzzzzz 0 1 1;", 4);
        Check.fault("person abcdefg 0 1 1;", 1, 7);
        Check.fault("person " + times("z", 99) + " 0 1 1;", 1, 7);
        Check.fault("person A 0 1 1;", 1, 7);
        Check.fault("person aB 0 1 1;", 1, 8);
        Check.fault("person a` 0 1 1;", 1, 8);
        Check.fault("person a{ 0 1 1;", 1, 8);
        Check.fault("person a_ 0 1 1;", 1, 8);
        for (String word : WORDS) {
            right(false, "person ", word, " 0 1 1;");
            // The same letters with one more (if there's room for it) or one fewer are a name.
            if (word.length() < 6) {
                Check.lines("person " + word + "z 0 1 1;", 1);
            }
            String shorter = word.substring(0, word.length() - 1);
            Check.lines("person " + shorter + " 0 1 1;", 1);
        }
        // A letter ends digits, digits end a word; a zero ahead changes nothing, however many there are.
        Check.lines("person a0 1 1;person b 0 1 01;place net" + times("0", 300) + "9;", 3);
        Check.lines("place net 0;", 1);
        Check.fault("place net ;", 1, 10);
        Check.fault("place net 1a;", 1, 11);
        Check.fault("place net +1;", 1, 10);
        Check.fault("place net 1.0;", 1, 11);
        Check.fault("place net :;", 1, 10);
        Check.fault("place net /;", 1, 10);
    }

    private void blanks() {
        sentences.about(3, "Blanks 10, 32.");
        Check.lines(" \n", 0);
        Check.lines("\n place  \n\n net \n 1 \n ; \n", 1);
        for (char c = 0; c < 256; c++) {
            boolean letter = c >= 'a' && c <= 'z';
            if (c == 10 || c == 32) {
                Check.lines("rule first;" + c, 1);
                Check.lines("rule" + c + "first;", 1);
            } else {
                Check.fault("rule first;" + c, 1, 11);
                Check.fault("rule" + c + "first;", 1, letter ? 0 : 4);
            }
        }
    }

    private void formulas() {
        sentences.about(10, "E: A { or A }. A: B { and B }. B: not B | C. C: S [ ( < | <= | = | <> | >= | > ) S ]. "
                + "S: T { ( + | - ) T }. T: P { ( * | / ) P }. P: N | NAME | '(' E ')';");
        String[] right = {"1", "(1)", "heavy", "1 or 1", "1 and 1", "not 1", "not not 1", "1<1", "1+1", "1*1", "1 or 1 or 1",
            "1 and 1 and 1", "1+1-1", "1*1/1", "not 1<1", "1 and not 1", "1 or not 1", "(1<1)<1", "1<(1<1)", "1+(not 1)",
            "1<1 and 1<1", "((1))", "1<1 or 1=1 and 1>1"};
        for (String e : right) {
            Check.lines("law lift " + e + ";", 1);
        }
        String[] wrong = {"", "()", ")", "or 1", "1 or", "and 1", "1 and", "not", "1 not", "<1", "1<", "1<1<1", "1=1<>1",
            "+1", "1+", "-1", "*1", "1*", "1 1", "(1", "1)", "(1))", "heavy heavy", "1(1)", "(1)(1)", "(1)1", "1+not 1",
            "1<not 1", "1*not 1", "1 or or 1", "1 and or 1", "not and 1", "(or)", "(1 or)", "1+*1", "1--1", "net", "law", "a"};
        int[] at = {0, 1, 0, 0, 4, 0, 5, 3, 2, 0, 2, 3, 3, 0, 2, 0, 0, 2, 2, 2, 1, 3, 6, 1, 3, 3, 2,
            2, 2, 5, 6, 4, 1, 5, 2, 2, 0, 0, 0};
        for (int i = 0; i < wrong.length; i++) {
            Check.fault("law lift " + wrong[i] + ";", 1, 9 + at[i]);
        }
        // Without its end the same texts fail at the latest at their length.
        for (String e : right) {
            Check.fault("law lift " + e, 1, 9 + e.length());
        }
    }

    private void numbersOfFormulas() {
        sentences.about(10, "N of E 0 .. 9999.");
        Check.lines("law lift 0;law fall 9999;law steal 0009999;", 3);
        Check.fault("law lift 10000;", 2, 9);
        Check.fault("law lift 1+(10000);", 2, 12);
        Check.fault("law lift 4294967296;", 2, 9);
        Check.fault("law lift 18446744073709551616;", 2, 9);
        Check.fault("law lift " + times("9", 200) + ";", 2, 9);
        Check.due("9999", formula("9999"), 9999);
        Check.due("0", formula("0"), 0);
    }

    /** What a law of lift gives for a piece of weight 12, frail 3, of strength 7, alone on a shelf at stop 1. */
    private static long formula(String e) {
        return Check.trainAt(1, "place shelf 99;person a 0 5 7;piece a 12 3;law lift " + e + ";").law(0, 0);
    }

    private void names() {
        sentences.about(10, "NAME: heavy frail above kind able stop bears.");
        for (String word : WORDS) {
            if (!word.equals("not")) {
                right(NAMES.contains(" " + word + " "), "law fall ", word, ";");
            }
        }
        Check.fault("law lift heavi;", 1, 9);
        Check.fault("law lift heavyy;", 1, 9);
        Check.fault(PERSON + "law lift a;", 1, 24);
    }

    private void signs() {
        sentences.about(10, "A = (or > behind <) right behind < or > belongs to it.");
        Check.due("<=", formula("2<=2"), 1);
        Check.due(">=", formula("2>=2"), 1);
        Check.due("<>", formula("2<>2"), 0);
        Check.fault("law lift 1< =2;", 1, 12);
        Check.fault("law lift 1<\n>2;", 1, 12);
        Check.fault("law lift 1> =2;", 1, 12);
        Check.fault("law lift 1><2;", 1, 11);
        Check.fault("law lift 1>>2;", 1, 11);
        Check.fault("law lift 1<<2;", 1, 11);
        Check.fault("law lift 1==2;", 1, 11);
        Check.fault("law lift 1=<2;", 1, 11);
        Check.fault("law lift 1=>2;", 1, 11);
        Check.fault("law lift 1<=>2;", 1, 12);
        Check.fault("law lift 1<>=2;", 1, 12);
        Check.fault("law lift 1>==2;", 1, 12);
        Check.fault("law lift 1<", 1, 11);
        Check.fault("law lift 1<=", 1, 12);
        // What lies behind the text's end on the tape isn't looked at.
        RackTrain x = new RackTrain();
        Check.feed(x, "law lift 1<=2;");
        Check.due("only up to the <", x.text(11), -1);
        Check.due("its length", x.fault(1), 11);
    }

    // ---- how many, how much

    private void places() {
        sentences.about(3, "PLACES, at most 5: KIND 0 net, 1 shelf, 2 floor, 3 seat, 4 hall, HOLDS 0 .. 999.");
        RackTrain x = Check.train("place net 0;place shelf 999;place floor 1;place seat 998;place hall 500;");
        int[] holds = {0, 999, 1, 998, 500};
        for (int i = 0; i < 5; i++) {
            Check.due("kind", x.place(i, 0), i);
            Check.due("holds", x.place(i, 1), holds[i]);
        }
        Check.due("five", x.count(0), 5);
        Check.fault(times("place net 1;", 6), 2, 60);
        Check.fault("place net 1000;", 2, 10);
        Check.due("none", Check.train(PERSON).count(0), 0);
        // What holds 0 holds nothing at all.
        RackTrain none = Check.trainAt(1, "place net 0;person a 0 5 1;piece a 1 0;");
        Check.due("nothing in it", none.piece(0, 3), 5);
        RackTrain one = Check.trainAt(1, "place seat 1;person a 0 5 1;piece a 1 0;piece a 1 0;");
        Check.due("one in it", one.piece(0, 3) * 10 + one.piece(1, 3), 15);
        RackTrain most = Check.trainAt(1, "place seat 999;person a 0 5 99;" + times("piece a 99 0;", 10));
        Check.due("ten of the heaviest", most.place(0, 2), 990);
    }

    private void persons() {
        sentences.about(3, "PERSONS, at most 6: get IN at a STOP 0 .. 19, get OUT at one behind it, at most 20, STRENGTH 1 .. 99.");
        RackTrain x = Check.train("person a 0 1 1;person b 19 20 99;person c 0 20 50;person d 18 19 2;person e 0 2 98;person f 1 2 3;");
        int[][] due = {{0, 1, 1}, {19, 20, 99}, {0, 20, 50}, {18, 19, 2}, {0, 2, 98}, {1, 2, 3}};
        for (int i = 0; i < 6; i++) {
            for (int what = 0; what < 3; what++) {
                Check.due("person " + i, Check.person(x, i, what), due[i][what]);
            }
        }
        Check.due("six", x.count(1), 6);
        Check.fault(sixPersons() + "person g 0 1 1;", 2, 90);
        Check.fault("person a 20 21 1;", 2, 9);
        Check.fault("person a 20 20 1;", 2, 9);
        Check.fault("person a 19 21 1;", 2, 12);
        Check.fault("person a 19 19 1;", 2, 12);
        Check.fault("person a 19 18 1;", 2, 12);
        Check.fault("person a 0 0 1;", 2, 11);
        Check.fault("person a 0 21 1;", 2, 11);
        Check.fault("person a 0 1 0;", 2, 13);
        Check.fault("person a 0 1 100;", 2, 13);
        Check.fault("person a 4294967296 1 1;", 2, 9);
    }

    private void pieces() {
        sentences.about(3, "PIECES, at most 10: of a PERSON, WEIGHT 1 .. 99, FRAIL 0 .. 9, if told the PLACE in which it is always stowed.");
        RackTrain x = Check.train("place net 999;place net 99;" + PERSON + "piece a 1 0;piece a 99 9;piece a 50 5 0;piece a 2 8 1;"
                + times("piece a 1 1;", 6));
        Check.due("ten", x.count(2), 10);
        Check.due("weight 1", x.piece(0, 1), 1);
        Check.due("weight 99", x.piece(1, 1), 99);
        Check.due("frail 0", x.piece(0, 2), 0);
        Check.due("frail 9", x.piece(1, 2), 9);
        Check.fault(PERSON + times("piece a 1 0;", 11), 2, 135);
        Check.fault(PERSON + "piece a 0 0;", 2, 23);
        Check.fault(PERSON + "piece a 100 0;", 2, 23);
        Check.fault(PERSON + "piece a 1 10;", 2, 25);
        x.go(1);
        // The told one goes where it is told, though the first one has room.
        Check.due("told 1", x.piece(3, 4), 1);
        RackTrain full = Check.trainAt(1, "place net 99;place net 4;person a 0 5 1;piece a 5 0 1;");
        Check.due("told one that is too small", full.piece(0, 3), 5);
    }

    private void waits() {
        sentences.about(9, "wait: at a STOP 0 .. 19 so many SECONDS 0 .. 999 (each STOP once, at most 10; 60 else).");
        RackTrain x = Check.train("wait 0 999;wait 19 0;");
        Check.due("0", x.waits(0), 999);
        Check.due("1", x.waits(1), 60);
        Check.due("18", x.waits(18), 60);
        Check.due("19", x.waits(19), 0);
        Check.due("20", x.waits(20), 60);
        Check.fault("wait 20 1;", 2, 5);
        Check.fault("wait 0 1000;", 2, 7);
        Check.fault("wait 19 1;wait 19 1;", 3, 15);
        Check.fault("wait 0 1;wait 00 1;", 3, 14);
        Check.lines(tenWaits(), 10);
        Check.fault(tenWaits() + "wait 10 1;", 2, 90);
        for (int stop = 0; stop < 21; stop++) {
            Check.due("60 without a text, " + stop, new RackTrain().waits(stop), 60);
        }
    }

    private void ruleCurveSeed() {
        sentences.about(3, "rule: 0 first, 1 light, 2 last (0 without). curve: how sharp 0 .. 99 (0). seed: 0 .. 99999 (0).");
        Check.due("first", Check.train("rule first;").count(12), 0);
        Check.due("light", Check.train("rule light;").count(12), 1);
        Check.due("last", Check.train("rule last;").count(12), 2);
        Check.due("without", Check.train("").count(12), 0);
        Check.lines("curve 0;", 1);
        Check.lines("curve 99;", 1);
        Check.fault("curve 100;", 2, 6);
        Check.lines("seed 0;", 1);
        Check.lines("seed 99999;", 1);
        Check.fault("seed 100000;", 2, 5);
        Check.fault("seed 4294967296;", 2, 5);
        // A piece of weight 1: curve 51 is 50, without a curve it is 0.
        String text = "place net 9;person a 0 9 1;piece a 1 0;";
        Check.due("curve 50", Check.train(text + "curve 50;").falls(), 0);
        Check.due("curve 51", Check.train(text + "curve 51;").falls(), 1);
        Check.due("curve 99", Check.train(text + "curve 99;").falls(), 1);
        Check.due("no curve", Check.train(text).falls(), 0);
        // The seed that is highest and none at all, by the numbers that they give.
        for (int seed : new int[] {99999, 0}) {
            long[] last = {seed};
            String told = seed == 0 ? "" : "seed 99999;";
            int first = Check.number(last);
            Check.due("the number isn't above itself", Check.trainAt(1, text + "law fall " + first + ";" + told).count(8), 0);
            Check.due("one more is", Check.trainAt(1, text + "law fall " + (first + 1) + ";" + told).count(8), 1);
        }
    }

    private void numbering() {
        sentences.about(3, "All numbered as they come; PERSONS have names.");
        RackTrain x = Check.train("person b 0 1 1;place net 1;piece b 7 0;person a 0 1 2;place hall 2;piece a 8 0;piece b 9 0;");
        Check.due("b", x.named(2 << 25), 0);
        Check.due("a", x.named(1 << 25), 1);
        Check.due("place 0", x.place(0, 0), 0);
        Check.due("place 1", x.place(1, 0), 4);
        Check.due("pieces", x.piece(0, 1) * 100 + x.piece(1, 1) * 10 + x.piece(2, 1), 789);
        Check.due("whose", x.piece(0, 0) * 100 + x.piece(1, 0) * 10 + x.piece(2, 0), 10);
    }

    // ---- faults

    private void firstFault() {
        sentences.about(4, "FAULTS, the first along the text (of one place the least), with its place:");
        Check.fault("place net 1000;place x;", 2, 10);
        Check.fault("place x;place net 1000;", 1, 6);
        Check.fault("rule first;rule first;piece a 1 1;", 3, 11);
        Check.fault("piece a 1 1;rule first;rule first;", 4, 6);
        Check.fault("rule first;\0rule first;", 1, 11);
        // A seventh person whose name is told: the word of the line is ahead of the name.
        Check.fault(sixPersons() + "person a 0 1 1;", 2, 90);
        Check.fault(tenWaits() + "wait 0 1;", 2, 90);
        // What can't stand there is 1, also if it is one too many or untold.
        Check.fault("law lift " + times("(", 8) + "1(;", 1, 18);
        Check.fault("law lift " + times("1+", 32) + "not 1;", 1, 73);
        Check.fault("law lift " + times("1+", 31) + "1<1<1;", 2, 73);
        Check.fault("law lift " + times("1+", 30) + "1<1<1;", 1, 72);
        Check.fault("law lift not " + times("1+", 30) + "1<1<1;", 1, 76);
        Check.fault(PERSON + "piece net 1 1;", 1, 21);
        Check.fault(times("place net 1;", 5) + "place x 1;", 2, 60);
        Check.fault(times("place net 1;", 5) + "places x 1;", 1, 60);
    }

    private void wrongTokens() {
        sentences.about(4, "1 a TOKEN that is none (a word of more than 6 letters that isn't of the language, too) or "
                + "can't stand there (the length, if more must come).");
        Check.fault("#", 1, 0);
        Check.fault("  placess", 1, 2);
        Check.fault("aaaaaa net 1;", 1, 0);
        Check.fault("aaaaaaa net 1;", 1, 0);
        Check.fault(PERSON + "piece abcdefg 1 1;", 1, 21);
        Check.fault("place", 1, 5);
        Check.fault("place net", 1, 9);
        Check.fault("place net 1", 1, 11);
        Check.fault("place net 1 \n", 1, 13);
        // The length is that of the text, however much stands on the tape.
        RackTrain x = new RackTrain();
        Check.feed(x, "place net 10;");
        Check.due("text(0)", x.text(0), 0);
        for (int n = 1; n <= 12; n++) {
            Check.feed(x, "place net 10;");
            Check.due("text(" + n + ")", x.text(n), -1);
            Check.due("fault of " + n, x.fault(0), 1);
            Check.due("place of " + n, x.fault(1), n < 5 ? 0 : n >= 7 && n < 9 ? 6 : n);
        }
        Check.feed(x, "place net 10;");
        Check.due("text(13)", x.text(13), 1);
        // As long as a tape can be.
        String blank = times(" ", 699);
        Check.fault(blank + "1", 1, 699);
        Check.fault(times(" ", 695) + "place", 1, 700);
        Check.lines(times(" ", 688) + "place net 1;", 1);
    }

    private void tooMuch() {
        sentences.about(4, "2 too much (at it): a number beyond what is said (OUT at or ahead of IN, too), a sixth place and so on "
                + "(at the word of the LINE),");
        Check.lines("person a 5 6 1;", 1);
        Check.fault("person a 5 5 1;", 2, 11);
        Check.fault("person a 5 4 1;", 2, 11);
        Check.fault("person a 5 21 1;", 2, 11);
        Check.fault("place net " + times("9", 600) + ";", 2, 10);
        Check.fault("wait 21 1;", 2, 5);
        Check.fault("wait 32 1;", 2, 5);
        Check.fault("wait 4294967296 1;", 2, 5);
        Check.fault("\n " + times("place net 1;", 6), 2, 62);
        Check.fault(times("place net 1;", 5) + "place", 2, 60);
        Check.fault(sixPersons() + "person", 2, 90);
        Check.fault(PERSON + times("piece a 1 0;", 10) + "piece", 2, 135);
        Check.fault(tenWaits() + "wait", 2, 90);
    }

    private void openBrackets() {
        sentences.about(4, "a ninth '(' open,");
        Check.lines("law lift " + times("(", 8) + "1" + times(")", 8) + ";", 1);
        Check.fault("law lift " + times("(", 9) + "1" + times(")", 9) + ";", 2, 17);
        Check.fault("law lift " + times("(", 10), 2, 17);
        // One that is closed is open no more, within one law and from one to the next.
        Check.lines("law lift " + times("(", 8) + "1" + times(")", 8) + "*(1);", 1);
        Check.lines("law lift " + times("(", 7) + "(1)+(1)" + times(")", 7) + ";", 1);
        Check.fault("law lift " + times("(", 7) + "(1)+((1" + times(")", 9) + ";", 2, 21);
        Check.lines("law lift " + times("(", 8) + "1" + times(")", 8) + ";law fall " + times("(", 8) + "1" + times(")", 8) + ";", 2);
        Check.lines("law lift " + times("not(", 8) + "1" + times(")", 8) + ";", 1);
        Check.fault("law lift " + times("not(", 9) + "1" + times(")", 9) + ";", 2, 44);
        Check.due("eight deep", formula(times("(1+", 8) + "1" + times(")", 8)), 9);
        // However often brackets stay open in texts with a fault, the next formula begins anew.
        RackTrain x = new RackTrain();
        for (int i = 0; i < 30; i++) {
            Check.due("open ones", Check.say(x, "law lift " + times("(not ", 8)), -1);
        }
        Check.say(x, "place shelf 99;person a 0 5 7;piece a 12 3;law lift (not (1<2))+(2*(3+4));");
        x.go(1);
        Check.due("the next formula", x.law(0, 0), 14);
    }

    private void knots() {
        sentences.about(4, "a 65th KNOT of all E (N, NAMES, signs, not, and, or: one each).");
        Check.lines("law lift not " + times("1+", 31) + "1;", 1);
        Check.due("64", Check.train("law lift not " + times("1+", 31) + "1;").count(3), 64);
        Check.due("brackets are none", Check.train("law lift (not (" + times("1+", 31) + "(1)));").count(3), 64);
        String full = "law lift not " + times("1+", 31) + "1;";
        // The 65th as a number, a name, a sign, not, and, or.
        Check.fault(full + "law fall 1;", 2, full.length() + 9);
        Check.fault(full + "law fall heavy;", 2, full.length() + 9);
        Check.fault(full + "law fall not 1;", 2, full.length() + 9);
        Check.fault(full + "law fall (((1)));", 2, full.length() + 12);
        for (String sign : new String[] {"+", "-", "*", "/", "<", "<=", "=", "<>", ">=", ">", " and ", " or "}) {
            String open = "law lift not " + times("1+", 31) + "1" + sign + "1;";
            Check.fault(open, 2, 13 + 63 + (sign.length() > 2 ? 1 : 0));
        }
        // Over three laws: 21 + 21 + 22.
        String third = times("1+", 10) + "1;";
        Check.lines("law lift " + third + "law fall " + third + "law steal not " + third, 3);
        String all = "law lift " + third + "law fall " + third;
        Check.fault(all + "law steal not not " + third, 2, all.length() + 18 + 20);
        Check.due("without a law", new RackTrain().count(3), 0);
        Check.due("the value of 64", formula("0-" + times("1-", 30) + "1"), -31);
        Check.due("the value of 64 with not", formula("not " + times("1+", 31) + "1"), 0);
        Check.due("63 times not", formula(times("not ", 63) + "5"), 0);
        Check.due("62 times not", formula(times("not ", 62) + "5"), 1);
        Check.due("63 times not in eight brackets", formula(times("(", 8) + times("not ", 63) + "5" + times(")", 8)), 0);
    }

    private void toldAlready() {
        sentences.about(4, "3 told already: a PERSON's name (at W), wait for that STOP (at it), rule, curve, seed (at the word), "
                + "a law of its LAW (at LAW).");
        Check.fault("person a 0 1 1;person a 0 1 1;", 3, 22);
        Check.fault("person abcdef 0 1 1;person abcdef", 3, 27);
        Check.lines("person abcdef 0 1 1;person abcdeg 0 1 1;person abcde 0 1 1;", 3);
        Check.fault("wait 1 1;wait 1", 3, 14);
        Check.fault("rule last;rule", 3, 10);
        Check.fault("curve 1;curve", 3, 8);
        Check.fault("seed 1;seed", 3, 7);
        Check.lines("rule last;curve 1;seed 1;", 3);
        for (String law : new String[] {"lift", "fall", "steal"}) {
            String line = "law " + law + " 0;";
            Check.fault(line + "law " + law, 3, line.length() + 4);
        }
        Check.lines("law steal 0;law fall 0;law lift 0;", 3);
        // A text with a fault tells nothing for the next one.
        RackTrain x = new RackTrain();
        Check.say(x, "person a 0 1 1;wait 1 1;rule last;curve 1;seed 1;law lift 1;law");
        Check.due("the same again", Check.say(x, "person a 0 1 1;wait 1 1;rule last;curve 1;seed 1;law lift 1;"), 6);
    }

    private void notToldAhead() {
        sentences.about(4, "4 a PERSON, a PLACE that isn't told ahead (at W, N).");
        Check.fault("piece a 1 1;", 4, 6);
        Check.fault("piece a 1 1;person a 0 1 1;", 4, 6);
        Check.fault(PERSON + "piece b 1 1;", 4, 21);
        Check.fault(PERSON + "piece aa 1 1;", 4, 21);
        Check.fault(PERSON + "piece a 1 1 0;", 4, 27);
        Check.fault(PERSON + "piece a 1 1 0;place net 1;", 4, 27);
        Check.lines("place net 1;" + PERSON + "piece a 1 1 0;", 3);
        Check.fault("place net 1;" + PERSON + "piece a 1 1 1;", 4, 39);
        Check.lines(times("place net 1;", 5) + PERSON + "piece a 1 1 4;", 7);
        Check.fault(times("place net 1;", 5) + PERSON + "piece a 1 1 5;", 4, 87);
        Check.fault(times("place net 1;", 5) + PERSON + "piece a 1 1 4294967296;", 4, 87);
    }

    // ---- promises 1 to 5

    private void newObject() {
        sentences.about(1, "A TEXT without LINES; an empty TAPE.");
        RackTrain x = new RackTrain();
        RackTrain said = new RackTrain();
        Check.due("a text without lines", said.text(0), 0);
        Check.same("a new object is as one with an empty text", Check.all(x), Check.all(said));
        Check.due("empty tape", x.text(1), -2);
        Check.due("twenty", x.feed(0, 0, 0, 0, 0), 20);
        Check.due("no image", x.back(), -1);
        Check.due("nothing to undo", x.undo(), -1);
        Check.due("nobody", Check.person(x, 0, 0), Check.NO_PERSON);
        Check.due("nobody gets in to the end", x.go(21), 21);
    }

    private void feed() {
        sentences.about(2, "Twenty bytes come behind the TAPE, four of each number, the highest first: how many it has; NONE, and "
                + "none come, if it would have more than 700.");
        RackTrain x = new RackTrain();
        for (int i = 1; i <= 34; i++) {
            Check.due("feed", x.feed(0x20202020, 0x20202020, 0x20202020, 0x20202020, 0x20202020), 20 * i);
        }
        // The last twenty are "place net 5;" and blanks.
        Check.due("just 700", x.feed(0x706c6163, 0x65206e65, 0x7420353b, 0x20202020, 0x20202020), 700);
        Check.due("720 would be too many", x.feed(0x706c6163, 0x65206e65, 0x7420363b, -1, MIN), -1);
        Check.due("again", x.feed(0, 0, 0, 0, 0), -1);
        Check.due("701 aren't there", x.text(701), -2);
        Check.due("none came", x.text(700), 1);
        Check.due("what was there stands", x.place(0, 1), 5);
        Check.due("empty again", x.feed(MIN, MAX, -1, 0, 1), 20);
        // The bytes in their order: 0x61 .. 0x74 with one that can't stand there at each place in turn.
        for (int at = 0; at < 20; at++) {
            int[] f = {0x20202020, 0x20202020, 0x20202020, 0x20202020, 0x20202020};
            f[at / 4] ^= (0x20 ^ 0x80 + at) << 24 - at % 4 * 8;
            RackTrain y = new RackTrain();
            y.feed(f[0], f[1], f[2], f[3], f[4]);
            y.text(20);
            Check.due("byte " + at, y.fault(1), at);
        }
    }

    private void textCall() {
        sentences.about(3, "The TAPE's first n bytes (it is empty then) are the TEXT (ahead of STOP 0, nothing SEEN, all KNOWN, no "
                + "IMAGE, nothing to undo then): how many LINES;");
        RackTrain x = Check.trainAt(1, "place seat 9;place seat 9;person a 0 9 1;piece a 1 1;piece a 1 1;seed 3;");
        x.keep();
        x.see(0, 0, 0, true);
        x.known(0);
        x.move(0, 1);
        x.help(0, 5);
        Check.due("two to undo", x.count(15), 2);
        Check.feed(x, "place hall 3;");
        Check.due("no byte at all", x.text(0), 0);
        Check.same("all as in a new object", Check.all(x), Check.all(new RackTrain()));
        Check.due("no image", x.back(), -1);
        Check.due("nothing to undo", x.undo(), -1);
        Check.due("the tape is empty", x.text(1), -2);
        // Said again behind a whole journey, a text begins anew.
        String again = "place net 999;place hall 99;person b 0 3 1;person a 0 9 1;piece b 99 1 0;piece a 99 1 0;piece b 1 1 1;piece a 99 1 0;seed 3;"
                + "rule last;curve 99;wait 3 9;law lift 1;law steal 50;";
        RackTrain twin = Check.train(again);
        Check.say(x, again);
        for (int stop = 0; stop <= 21; stop++) {
            Check.same("at " + stop, Check.all(x), Check.all(twin));
            x.go(stop < 21 ? 1 : 0);
            twin.go(stop < 21 ? 1 : 0);
        }
        Check.due("lifts were made", x.count(5) > 0, true);
        x.see(0, 0, 0, false);
        x.known(0);
        Check.say(x, again);
        Check.same("ahead of stop 0 again", Check.all(x), Check.all(Check.train(again)));
        x.see(0, 0, 0, false);
        Check.due("all known", x.count(14), 1);
        String another = "place net 9;place hall 9;person a 0 20 1;piece a 1 1;piece a 1 1;piece a 1 1 1;piece a 1 1 1;";
        Check.say(x, another);
        twin = Check.train(another);
        for (int stop = 0; stop <= 21; stop++) {
            Check.same("another text at " + stop, Check.all(x), Check.all(twin));
            Check.due("without its curve at " + stop, x.falls(), twin.falls());
            x.go(stop < 21 ? 1 : 0);
            twin.go(stop < 21 ? 1 : 0);
        }
        // The most lines that there can be, with as few bytes as there can be.
        String most = times("place net 1;", 5) + sixPersons() + times("piece a 1 0;", 10) + tenWaits()
                + "rule first;curve 1;seed 1;law lift 1;law fall 1;law steal 1;";
        Check.due("all the lines", Check.say(x, most), 37);
        Check.due("said again", Check.say(x, most), 37);
        Check.due("still nothing more", x.count(0) * 1000 + x.count(1) * 100 + x.count(2), 5610);
    }

    private void refusedTexts() {
        sentences.about(3, "NONE with a FAULT, all stays; -2, and the TAPE stays: there are not so many, n is below 0.");
        String text = "place seat 9;place seat 9;person a 0 9 1;piece a 1 1;piece a 1 1;seed 3;law lift 2;wait 1 1;";
        RackTrain x = Check.trainAt(1, text);
        x.keep();
        x.see(0, 0, 0, true);
        x.strike(0);
        x.known(1);
        x.move(0, 1);
        x.help(0, 5);
        RackTrain y = Check.trainAt(1, text);
        y.keep();
        y.see(0, 0, 0, true);
        y.strike(0);
        y.known(1);
        y.move(0, 1);
        y.help(0, 5);
        Check.feed(x, "place nut 7;");
        for (int n : new int[] {-1, -20, MIN, 21, 40, 700, 701, MAX}) {
            Check.due("text(" + n + ")", x.text(n), -2);
        }
        Check.same("all stays with -2", Check.all(x), Check.all(y));
        Check.due("the tape stays with -2", x.text(12), -1);
        Check.due("as it was", x.fault(1), 6);
        for (String wrong : new String[] {"", "place net 1;" + times("x", 30), "person a 0 1 1;rule last;wait 2 2;place", "\0"}) {
            Check.say(x, "place net 1;" + wrong + ";");
            Check.say(y, ";");
            Check.due("a fault", x.fault(0) > 0, true);
            Check.due("the tape is empty", x.text(1), -2);
            Check.same("all stays with a fault", withoutFault(x), withoutFault(y));
        }
        Check.due("the image stays", x.back(), 1);
        y.back();
        Check.same("as it was kept", withoutFault(x), withoutFault(y));
        Check.feed(x, "place net 7;");
        x.text(-1);
        Check.due("the tape stayed", x.text(20), 1);
        Check.due("and is the text", x.place(0, 1), 7);
    }

    private static String withoutFault(RackTrain x) {
        return Check.all(x).replaceAll("fault \\d+ -?\\d+", "");
    }

    private void faultCall() {
        sentences.about(4, "Of the latest text() that was not -2, what 0: its FAULT (0), 1: its place (NONE without). NONE for another what.");
        RackTrain x = new RackTrain();
        Check.due("without a text", x.fault(0) * 10 + x.fault(1), -1);
        Check.say(x, "  net");
        Check.due("fault", x.fault(0), 1);
        Check.due("place", x.fault(1), 2);
        x.text(-1);
        x.text(1);
        x.go(3);
        Check.due("fault stays", x.fault(0), 1);
        Check.due("place stays", x.fault(1), 2);
        for (int what : new int[] {-1, 2, MIN, MAX}) {
            Check.due("what " + what, x.fault(what), -1);
        }
        Check.due("a text without bytes", x.text(0), 0);
        Check.due("no fault", x.fault(0), 0);
        Check.due("no place", x.fault(1), -1);
        Check.fault("x", 1, 0);
    }

    private void named() {
        sentences.about(5, "The number of a PERSON by the letters, 5 bits each (a is 1; the first one highest of six, 0 behind the last "
                + "one); NONE: there is none such.");
        RackTrain x = Check.train("person a 0 1 1;person z 0 1 1;person zzzzzz 0 1 1;person aa 0 1 1;person aaaaaa 0 1 1;");
        Check.due("a", x.named(1 << 25), 0);
        Check.due("z", x.named(26 << 25), 1);
        Check.due("zzzzzz", x.named(0x35ad6b5a), 2);
        Check.due("aa", x.named(1 << 25 | 1 << 20), 3);
        Check.due("aaaaaa", x.named(0x02108421), 4);
        int[] none = {0, 1, -1, MIN, MAX, 1 << 20, 2 << 25, 27 << 25, 31 << 25, 1 << 25 | 1, 1 << 25 | 1 << 30, 1 << 25 | MIN,
            1 << 25 | 1 << 15, 0x35ad6b5b, 0x02108420, 1 << 25 | 27 << 20};
        for (int letters : none) {
            Check.due("none " + letters, x.named(letters), -1);
        }
        Check.due("nobody at all", new RackTrain().named(1 << 25), -1);
        Check.say(x, "person b 0 1 1;");
        Check.due("of the text ahead", x.named(1 << 25), -1);
        Check.say(x, "person a 0 1 1;person");
        Check.due("of a text with a fault", x.named(1 << 25), -1);
    }
}
