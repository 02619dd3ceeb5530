/** The edges of promise 9: word. */
public final class Edges09WordTest {
    private static final Check check = new Check();

    public static void main(String[] args) {
        addressTooSmall();
        addressAtItsEnds();
        addressTooLarge();
        nothingThere();
        nothingThereAnyMore();
        wordsThatLookLikeNothing();
        wordsThatWrap();
        unitsInOrder();
        check.end();
    }

    private static void addressTooSmall() {
        check.about("address 0 .. 23: below");
        QueueDrive x = allWritten();
        String before = Check.state(x);
        for (int a : new int[] {-1, -2, -24, Integer.MIN_VALUE}) {
            check.due("word(" + a + ")", x.word(a), QueueDrive.NONE);
        }
        check.same("the state", Check.state(x), before);
    }

    private static void addressAtItsEnds() {
        check.about("address 0 .. 23: at both ends");
        QueueDrive x = allWritten();
        check.due("word(0)", x.word(0), 100);
        check.due("word(1)", x.word(1), 101);
        check.due("word(22)", x.word(22), 122);
        check.due("word(23)", x.word(23), 123);
    }

    private static void addressTooLarge() {
        check.about("address 0 .. 23: above");
        QueueDrive x = allWritten();
        String before = Check.state(x);
        for (int a : new int[] {24, 25, 48, Integer.MAX_VALUE}) {
            check.due("word(" + a + ")", x.word(a), QueueDrive.NONE);
        }
        check.same("the state", Check.state(x), before);
    }

    private static void nothingThere() {
        check.about("NONE if it is nothing: beside a unit at either end");
        for (int n = 1; n <= 4; n++) {
            QueueDrive low = new QueueDrive(2);
            Check.run(low, Check.WRITE, 0, n, 0);
            QueueDrive high = new QueueDrive(2);
            Check.run(high, Check.WRITE, 24 - n, n, 0);
            for (int a = 0; a < 24; a++) {
                check.due("low, word(" + a + ")", low.word(a), a < n ? a : QueueDrive.NONE);
                check.due("high, word(" + a + ")", high.word(a),
                        a >= 24 - n ? a - 24 + n : QueueDrive.NONE);
            }
        }
    }

    private static void nothingThereAnyMore() {
        check.about("NONE if it is nothing: taken away, in the cache and on the flash");
        QueueDrive x = new QueueDrive(2);
        Check.run(x, Check.FORCE, 20, 4, 1);
        Check.run(x, Check.DROP, 23, 1, 0);
        check.due("word(22)", x.word(22), 3);
        check.due("word(23), in the cache", x.word(23), QueueDrive.NONE);
        Check.run(x, Check.FLUSH, 0, 0, 0);
        check.due("word(23), on the flash", x.word(23), QueueDrive.NONE);
        Check.run(x, Check.WRITE, 23, 1, 8);
        check.due("word(23), written again", x.word(23), 8);
        Check.run(x, Check.DROP, 0, 4, 0);
        check.due("nothing was there to take away", x.word(0), QueueDrive.NONE);
    }

    private static void wordsThatLookLikeNothing() {
        check.about("each holds a word (an int) or nothing: odd words are words");
        int[] odd = {0, -1, -2, -3, (int) QueueDrive.NONE, Integer.MIN_VALUE, Integer.MAX_VALUE};
        for (int word : odd) {
            QueueDrive x = new QueueDrive(2);
            Check.run(x, Check.WRITE, 5, 1, word);
            check.due("a word of the cache", x.word(5), word);
            check.due("its sum", Check.run(x, Check.READ, 5, 1, 0), word);
            Check.run(x, Check.FLUSH, 0, 0, 0);
            check.due("a word of the flash", x.word(5), word);
        }
    }

    private static void wordsThatWrap() {
        check.about("The k-th word of it is v + k, which wraps: in the cache");
        QueueDrive x = new QueueDrive(6);
        long[] words = {2147483645, 2147483646, 2147483647, -2147483648, -2147483647, -2147483646};
        for (int i = 0; i < 3; i++) {
            Check.run(x, Check.WRITE, 4 * i, 4, Integer.MAX_VALUE - 2 + i);
            for (int k = 0; k < 4; k++) {
                check.due("word(" + (4 * i + k) + ")", x.word(4 * i + k), words[i + k]);
            }
        }
        Check.run(x, Check.WRITE, 12, 4, -2);
        for (int k = 0; k < 4; k++) {
            check.due("about 0: word(" + (12 + k) + ")", x.word(12 + k), k - 2);
        }
    }

    private static void unitsInOrder() {
        check.about("the flash with all UNITS of the cache APPLIED in order: six on one address");
        QueueDrive x = new QueueDrive(6);
        Check.run(x, Check.FORCE, 10, 4, 1);
        for (int i = 1; i <= 6; i++) {
            boolean takesAway = i % 2 == 0;
            Check.run(x, takesAway ? Check.DROP : Check.WRITE, 10, 1 + i % 4, 10 * i);
            check.due("word(10)", x.word(10), takesAway ? QueueDrive.NONE : 10 * i);
        }
        check.due("word(11)", x.word(11), QueueDrive.NONE);
        check.due("word(12)", x.word(12), QueueDrive.NONE);
        check.due("word(13)", x.word(13), 33);
        check.due("flash(10)", x.flash(10), 1);
    }

    /** Each address holds 100 more than its own number. */
    private static QueueDrive allWritten() {
        QueueDrive x = new QueueDrive(6);
        for (int a = 0; a < 24; a += 4) {
            Check.run(x, Check.WRITE, a, 4, 100 + a);
        }
        return x;
    }
}
