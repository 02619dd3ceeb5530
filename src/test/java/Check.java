/** Compares answers with those that are due, and ends the test with exit code 1 if one was not. */
final class Check {
    static final int READ = 0;
    static final int WRITE = 1;
    static final int FORCE = 2;
    static final int FLUSH = 3;
    static final int DROP = 4;
    static final int MATCH = 5;

    private static final int MOST_TOLD = 40;

    private int cases;
    private int asked;
    private int wrong;
    private String sentence = "";

    /** Opens a case of its own: what the document says there is told with each of its faults. */
    void about(String words) {
        cases++;
        sentence = "\"" + words + "\": ";
    }

    void due(String call, long got, long want) {
        asked++;
        if (got != want) {
            tell(call + " answered " + got + ", due is " + want);
        }
    }

    void same(String what, String got, String want) {
        asked++;
        if (!got.equals(want)) {
            tell(what + " is\n  " + got + "\ndue is\n  " + want);
        }
    }

    /** No queue has a pending command or a completion: 24 calls. */
    void noCommands(QueueDrive x) {
        for (int queue = 0; queue <= 2; queue++) {
            due("queue(" + queue + ", 0)", x.queue(queue, 0), 0);
            due("queue(" + queue + ", 1)", x.queue(queue, 1), 0);
            for (int what = 2; what <= 5; what++) {
                due("queue(" + queue + ", " + what + ")", x.queue(queue, what), QueueDrive.REFUSED);
            }
            due("step(" + queue + ", 0)", x.step(queue, 0), QueueDrive.REFUSED);
            due("take(" + queue + ")", x.take(queue), QueueDrive.REFUSED);
        }
    }

    /** A fault can spoil a million answers, of which the first ones tell enough. */
    private void tell(String fault) {
        wrong++;
        if (wrong <= MOST_TOLD) {
            System.out.println(sentence + fault);
        }
    }

    void end() {
        System.out.println((cases == 0 ? "" : cases + " cases, ") + asked + " answers, " + wrong
                + " wrong");
        if (wrong != 0) {
            System.exit(1);
        }
    }

    /** Carries out a command on queue 0, takes its completion, and answers its result. */
    static long run(QueueDrive x, int kind, int a, int n, int v) {
        int number = x.submit(0, kind, a, n, v);
        x.step(0, x.queue(0, 0) - 1);
        return x.take(0) == number ? x.result() : Long.MIN_VALUE;
    }

    /** The words that the drive holds, then those of its flash, as texts. */
    static String words(QueueDrive x) {
        StringBuilder text = new StringBuilder();
        for (int a = 0; a < 24; a++) {
            text.append(shown(x.word(a))).append('/').append(shown(x.flash(a))).append(' ');
        }
        return text.toString();
    }

    /** All that can be seen of a drive by questions that change nothing: 91 calls. */
    static String state(QueueDrive x) {
        StringBuilder text = new StringBuilder(words(x));
        for (int queue = 0; queue < 3; queue++) {
            text.append("queue");
            for (int what = 0; what <= 5; what++) {
                text.append(' ').append(x.queue(queue, what));
            }
        }
        for (int unit = 0; unit < 6; unit++) {
            text.append(" unit ").append(x.unit(unit, 0));
            text.append(' ').append(x.unit(unit, 1)).append(' ').append(x.unit(unit, 2));
        }
        for (int what = 0; what <= 4; what++) {
            text.append(" count ").append(x.count(what));
        }
        return text.append(" result ").append(x.result()).toString();
    }

    private static String shown(long word) {
        return word == QueueDrive.NONE ? "-" : Long.toString(word);
    }
}
