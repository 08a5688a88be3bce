/** The language of a TEXT (part 1 of the terms; promises 3 and 4): lines, limits, faults and their places. */
public final class TextTest {
    private static final String PERSON = "person a 0 1 1;";

    public static void main(String[] args) {
        Check.promise(3);
        rightTexts();
        wrongTokens();
        tooMuch();
        toldAgain();
        notTold();
        formulas();
        values();
        Check.end();
    }

    private static String times(String s, int n) {
        return s.repeat(n);
    }

    private static void rightTexts() {
        Check.lines("", 0);
        Check.lines(" \n ", 0);
        Check.lines("place net 0;", 1);
        Check.lines("place\nhall\n999\n;\nplace seat 00010;", 2);
        Check.lines("place net5;place shelf007;", 2);
        Check.lines("person abcdef 19 20 99;person zz 0 1 1;", 2);
        Check.lines("person places 0 1 1;person no 0 1 1;person ors 0 1 1;", 3);
        Check.lines(PERSON + "piece a 1 0;piece a 99 9;", 3);
        Check.lines("place net 5;" + PERSON + "piece a 1 0 0;", 3);
        Check.lines("wait 0 0;wait 19 999;", 2);
        Check.lines("rule first;", 1);
        Check.lines("rule light;curve 99;seed 99999;", 3);
        Check.lines("rule last;curve 0;seed 0;", 3);
        Check.lines(times("place net 1;", 5), 5);
        Check.lines("person a 0 1 1;person b 0 1 1;person c 0 1 1;person d 0 1 1;person e 0 1 1;person f 0 1 1;", 6);
        Check.lines(PERSON + times("piece a 1 0;", 10), 11);
    }

    private static void wrongTokens() {
        Check.fault(";", 1, 0);
        Check.fault("place net 1;;", 1, 12);
        Check.fault("place", 1, 5);
        Check.fault("place ", 1, 6);
        Check.fault("place net", 1, 9);
        Check.fault("place net 1", 1, 11);
        Check.fault("place net 1  ", 1, 13);
        Check.fault("place net -1;", 1, 10);
        Check.fault("place net 1 1;", 1, 12);
        Check.fault("place 5 net;", 1, 6);
        Check.fault("place place 5;", 1, 6);
        Check.fault("Place net 5;", 1, 0);
        Check.fault("placer net 5;", 1, 0);
        Check.fault("net 5;", 1, 0);
        Check.fault("5;", 1, 0);
        Check.fault("place\tnet 5;", 1, 5);
        Check.fault("place net 5,", 1, 11);
        Check.fault("place net 5;\u00ff", 1, 12);
        Check.fault("place net 5;\0", 1, 12);
        Check.fault("\0", 1, 0);
        Check.fault("place net 5;\r", 1, 12);
        Check.fault("place net 5;\u00a0", 1, 12);
        Check.fault("place net`5;", 1, 9);
        Check.fault("place net{5;", 1, 9);
        Check.fault("place net 5:", 1, 11);
        Check.fault("place net 5/;", 1, 11);
        Check.fault("person abcdefg 0 1 1;", 1, 7);
        Check.fault("person heavy 0 1 1;", 1, 7);
        Check.fault("person or 0 1 1;", 1, 7);
        Check.fault("person net 0 1 1;", 1, 7);
        Check.fault("person first 0 1 1;", 1, 7);
        Check.fault("person steal 0 1 1;", 1, 7);
        Check.fault("person wait 0 1 1;", 1, 7);
        Check.fault("person 0 0 1 1;", 1, 7);
        Check.fault("person a 0 1;", 1, 12);
        Check.fault(PERSON + "piece a 1;", 1, 24);
        Check.fault(PERSON + "piece heavy 1 1;", 1, 21);
        Check.fault(PERSON + "piece abcdefg 1 1;", 1, 21);
        Check.fault(PERSON + "piece a 1 1 b;", 1, 27);
        Check.fault("wait 1;", 1, 6);
        Check.fault("wait x 1;", 1, 5);
        Check.fault("rule net;", 1, 5);
        Check.fault("rule;", 1, 4);
        Check.fault("curve first;", 1, 6);
        Check.fault("seed;", 1, 4);
        Check.fault("law heavy 1;", 1, 4);
        Check.fault("law lift;", 1, 8);
        Check.fault("law lift 1", 1, 10);
    }

    private static void tooMuch() {
        Check.fault("place net 1000;", 2, 10);
        Check.fault("place net 99999999999999999999;", 2, 10);
        Check.fault("place net 4294967297;", 2, 10);
        Check.fault("person a 20 20 1;", 2, 9);
        Check.fault("person a 0 0 1;", 2, 11);
        Check.fault("person a 5 4 1;", 2, 11);
        Check.fault("person a 0 21 1;", 2, 11);
        Check.fault("person a 0 1 0;", 2, 13);
        Check.fault("person a 0 1 100;", 2, 13);
        Check.fault(PERSON + "piece a 0 1;", 2, 23);
        Check.fault(PERSON + "piece a 100 1;", 2, 23);
        Check.fault(PERSON + "piece a 1 10;", 2, 25);
        Check.fault("wait 20 1;", 2, 5);
        Check.fault("wait 33 1;", 2, 5);
        Check.fault("wait 1 1000;", 2, 7);
        Check.fault("curve 100;", 2, 6);
        Check.fault("seed 100000;", 2, 5);
        Check.fault(times("place net 1;", 5) + "place hall 1;", 2, 60);
        Check.fault(times("place net 1;", 5) + "place x", 2, 60);
        Check.fault("person a 0 1 1;person b 0 1 1;person c 0 1 1;person d 0 1 1;person e 0 1 1;person f 0 1 1;"
                + "person a 0 1 1;", 2, 90);
        Check.fault(PERSON + times("piece a 1 0;", 11), 2, 135);
        StringBuilder waits = new StringBuilder();
        for (int i = 0; i < 10; i++) {
            waits.append("wait ").append(i).append(" 1;");
        }
        Check.lines(waits.toString(), 10);
        Check.fault(waits + "wait 0 1;", 2, 90);
    }

    private static void toldAgain() {
        Check.fault("person a 0 1 1;person a 0 1 1;", 3, 22);
        Check.lines("person a 0 1 1;person aa 0 1 1;person ab 0 1 1;", 3);
        Check.fault("wait 1 1;wait 2 1;wait 1 2;", 3, 23);
        Check.fault("wait 1 1;wait 01 x;", 3, 14);
        Check.fault("rule first;rule first;", 3, 11);
        Check.fault("curve 0;curve 0;", 3, 8);
        Check.fault("seed 0;seed 0;", 3, 7);
        Check.fault("seed 0;seed x;", 3, 7);
        Check.fault("law lift 1;law lift 1;", 3, 15);
        Check.fault("law fall 1;law lift 1;law fall 1;", 3, 26);
        Check.lines("law lift 1;law fall 1;law steal 1;", 3);
        RackTrain x = new RackTrain();
        Check.say(x, "rule last;curve 1;seed 1;law lift 1;wait 1 1;person a 0 1 1;");
        Check.due("the same in the next text", Check.say(x, "rule last;curve 1;seed 1;law lift 1;wait 1 1;person a 0 1 1;"), 6);
    }

    private static void notTold() {
        Check.fault("piece a 1 1;", 4, 6);
        Check.fault(PERSON + "piece b 1 1;", 4, 21);
        Check.fault("piece a 1 1;" + PERSON, 4, 6);
        Check.fault(PERSON + "piece a 1 1 0;", 4, 27);
        Check.fault("place net 1;" + PERSON + "piece a 1 1 1;", 4, 39);
        Check.fault("place net 1;" + PERSON + "piece a 1 1 1;place net 1;", 4, 39);
        Check.fault("place net 1;" + PERSON + "piece a 1 1 99999999999;", 4, 39);
    }

    private static void formulas() {
        Check.lines("law lift 9999;", 1);
        Check.fault("law lift 10000;", 2, 9);
        Check.fault("law lift -1;", 1, 9);
        Check.fault("law lift 1 2;", 1, 11);
        Check.fault("law lift 1+;", 1, 11);
        Check.fault("law lift ();", 1, 10);
        Check.fault("law lift (1;", 1, 11);
        Check.fault("law lift (1", 1, 11);
        Check.fault("law lift 1);", 1, 10);
        Check.fault("law lift heavi;", 1, 9);
        Check.fault("law lift net;", 1, 9);
        Check.fault("law lift 1<2<3;", 1, 12);
        Check.fault("law lift 1=2=3;", 1, 12);
        Check.fault("law lift 1+1<2*2>3;", 1, 16);
        Check.fault("law lift 1 < = 2;", 1, 13);
        Check.fault("law lift 1=<2;", 1, 11);
        Check.fault("law lift 1><2;", 1, 11);
        Check.fault("law lift 1>>2;", 1, 11);
        Check.lines("law lift (1<2)<3;", 1);
        Check.lines("law lift 1<2 and 2<3 or not 3<4;", 1);
        Check.lines("law lift 1<=2;law fall 1<>2;law steal 1>=2;", 3);
        Check.fault("law lift 1+not 1;", 1, 11);
        Check.fault("law lift 1<not 1;", 1, 11);
        Check.fault("law lift 1 not 1;", 1, 11);
        Check.lines("law lift not not(not 1)and not 1;", 1);
        Check.lines("law lift " + times("(", 8) + "1" + times(")", 8) + ";", 1);
        Check.fault("law lift " + times("(", 9) + "1" + times(")", 9) + ";", 2, 17);
        Check.lines("law lift " + times("(", 8) + "1" + times(")", 8) + "+" + times("(", 8) + "1" + times(")", 8) + ";", 1);
        Check.lines("law lift " + times("1+", 31) + "1;", 1);
        Check.lines("law lift not " + times("1+", 31) + "1;", 1);
        Check.fault("law lift not not " + times("1+", 31) + "1;", 2, 17 + 62);
        Check.fault("law lift not not " + times("1+", 31) + ";", 1, 17 + 62);
        Check.fault("law lift " + times("1+", 31) + "1;law fall 1+1;", 2, 9 + 64 + 9 + 1);
        RackTrain again = new RackTrain();
        Check.say(again, "law lift 1+(2*(not;");
        Check.say(again, "law lift 1+(2*(;");
        Check.say(again, "place net 9;person a 0 2 1;piece a 5 0;law lift 2*heavy;law fall 0;");
        again.go(1);
        Check.due("a formula behind one with a fault", again.law(0, 0), 10);
        RackTrain x = Check.train("law lift 1+(heavy);law fall not 1 and 2;");
        Check.due("knots", x.count(3), 7);
    }

    private static void values() {
        value("heavy", 12);
        value("frail", 3);
        value("above", 0);
        value("kind", 1);
        value("able", 7);
        value("stop", 1);
        value("bears", 12);
        value("2+3*4", 14);
        value("(2+3)*4", 20);
        value("20-5-3", 12);
        value("100/7/2", 7);
        value("2-9", -7);
        value("(0-7)/2", -3);
        value("(0-7)/(0-2)", 3);
        value("1 < 2", 1);
        value("2<=1", 0);
        value("2<=2", 1);
        value("1<=2", 1);
        value("1<1", 0);
        value("2<1", 0);
        value("2=2", 1);
        value("1=2", 0);
        value("1<>2", 1);
        value("1>=2", 0);
        value("3>=2", 1);
        value("2>2", 0);
        value("3>2", 1);
        value("2<>2", 0);
        value("2>=2", 1);
        value("1>2", 0);
        value("1+1=2", 1);
        value("not 5", 0);
        value("not 0", 1);
        value("not not 7", 1);
        value("not 1=2", 1);
        value("not 0 and 0", 0);
        value("not (0 and 0)", 1);
        value("1 or 0 and 0", 1);
        value("(1 or 0) and 0", 0);
        value("5 and 7", 1);
        value("0-1 and 1", 1);
        value("0 or 9", 1);
        value("0 or 0", 0);
        value("1/0", Long.MIN_VALUE);
        value("0 and 1/0", Long.MIN_VALUE);
        value("1 or 1/0", Long.MIN_VALUE);
        value("8000*5000*5000*5", 1000000000000L);
        value("8000*5000*5000*5+1", Long.MIN_VALUE);
        value("8000*5000*5000*5+1-1", Long.MIN_VALUE);
        value("0-8000*5000*5000*5", -1000000000000L);
        value("0-8000*5000*5000*5-1", Long.MIN_VALUE);
        value("9999*9999*9999*9999*9999", Long.MIN_VALUE);
        value("(8000*5000*5000*5)*(8000*5000*5000*5)", Long.MIN_VALUE);
        value("(256*256*256*256)*(256*256*256*256)", Long.MIN_VALUE);
        value("(256*256*256*256)*(0-256*256*256*256)", Long.MIN_VALUE);
        value("1000*1000*(0-1000*1000)", -1000000000000L);
        value("(0-1000*1000)*(0-1000*1000)", 1000000000000L);
        value("(0-1000*1000)*(0-1000*1000-1)", Long.MIN_VALUE);
        value("(8000*5000*5000*5)*0", 0);
        value("0*(8000*5000*5000*5)", 0);
        value("1<1/0", Long.MIN_VALUE);
    }

    private static void value(String formula, long due) {
        RackTrain x = Check.train("place shelf 99;person a 0 5 7;piece a 12 3;law lift " + formula + ";");
        x.go(1);
        Check.due("law lift " + formula, x.law(0, 0), due);
    }
}
