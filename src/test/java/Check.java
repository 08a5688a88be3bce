/** What the tests share: texts onto the tape, answers compared. */
final class Check {
    private static int wrong = 0;
    private static int promise = 0;

    private Check() {
    }

    static void promise(int number) {
        promise = number;
    }

    static void due(String what, long got, long want) {
        if (got != want) {
            wrong++;
            System.out.println("promise " + promise + ": " + what + " answered " + got + ", due is " + want);
        }
    }

    static void due(String what, boolean got, boolean want) {
        due(what, got ? 1 : 0, want ? 1 : 0);
    }

    /** The text on the tape, filled up with blanks; how many bytes the text itself has. */
    static int feed(RackTrain x, String text) {
        for (int i = 0; i < text.length(); i += 20) {
            int[] fours = new int[5];
            for (int k = 0; k < 20; k++) {
                char c = i + k < text.length() ? text.charAt(i + k) : ' ';
                fours[k / 4] = fours[k / 4] << 8 | c;
            }
            x.feed(fours[0], fours[1], fours[2], fours[3], fours[4]);
        }
        return text.length();
    }

    static int say(RackTrain x, String text) {
        return x.text(feed(x, text));
    }

    static RackTrain train(String text) {
        RackTrain x = new RackTrain();
        if (say(x, text) < 0) {
            wrong++;
            System.out.println("promise " + promise + ": fault " + x.fault(0) + " at " + x.fault(1) + " in " + text);
        }
        return x;
    }

    static void end() {
        if (wrong > 0) {
            System.out.println(wrong + " answers are not as due");
            System.exit(1);
        }
    }
}
