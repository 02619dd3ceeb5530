/** The edges of promise 10: flash. */
public final class Edges10FlashTest {
    private static final Check check = new Check();

    public static void main(String[] args) {
        addressTooSmall();
        addressAtItsEnds();
        addressTooLarge();
        nothingThere();
        nothingThereYet();
        nothingThereAnyMore();
        wordsThatLookLikeNothing();
        wordsThatWrap();
        check.end();
    }

    private static void addressTooSmall() {
        check.about("address 0 .. 23: below");
        QueueDrive x = allForced();
        String before = Check.state(x);
        for (int a : new int[] {-1, -2, -24, Integer.MIN_VALUE}) {
            check.due("flash(" + a + ")", x.flash(a), QueueDrive.NONE);
        }
        check.same("the state", Check.state(x), before);
    }

    private static void addressAtItsEnds() {
        check.about("address 0 .. 23: at both ends");
        QueueDrive x = allForced();
        check.due("flash(0)", x.flash(0), 100);
        check.due("flash(1)", x.flash(1), 101);
        check.due("flash(22)", x.flash(22), 122);
        check.due("flash(23)", x.flash(23), 123);
    }

    private static void addressTooLarge() {
        check.about("address 0 .. 23: above");
        QueueDrive x = allForced();
        String before = Check.state(x);
        for (int a : new int[] {24, 25, 48, Integer.MAX_VALUE}) {
            check.due("flash(" + a + ")", x.flash(a), QueueDrive.NONE);
        }
        check.same("the state", Check.state(x), before);
    }

    private static void nothingThere() {
        check.about("NONE if it has nothing there: beside a unit at either end");
        for (int n = 1; n <= 4; n++) {
            QueueDrive low = new QueueDrive(2);
            Check.run(low, Check.FORCE, 0, n, 0);
            QueueDrive high = new QueueDrive(2);
            Check.run(high, Check.FORCE, 24 - n, n, 0);
            for (int a = 0; a < 24; a++) {
                check.due("low, flash(" + a + ")", low.flash(a), a < n ? a : QueueDrive.NONE);
                check.due("high, flash(" + a + ")", high.flash(a),
                        a >= 24 - n ? a - 24 + n : QueueDrive.NONE);
            }
        }
    }

    private static void nothingThereYet() {
        check.about("NONE if it has nothing there: the unit is still in the cache");
        QueueDrive x = new QueueDrive(2);
        Check.run(x, Check.WRITE, 0, 2, 5);
        Check.run(x, Check.WRITE, 22, 2, 5);
        check.due("flash(0)", x.flash(0), QueueDrive.NONE);
        check.due("flash(23)", x.flash(23), QueueDrive.NONE);
        Check.run(x, Check.WRITE, 10, 1, 5);
        check.due("flash(0), stored for want of room", x.flash(0), 5);
        check.due("flash(1)", x.flash(1), 6);
        check.due("flash(23)", x.flash(23), QueueDrive.NONE);
    }

    private static void nothingThereAnyMore() {
        check.about("NONE if it has nothing there: taken away, once that is stored");
        QueueDrive x = new QueueDrive(1);
        Check.run(x, Check.FORCE, 0, 4, 1);
        Check.run(x, Check.DROP, 1, 2, 0);
        check.due("flash(1), while it is cached", x.flash(1), 2);
        Check.run(x, Check.DROP, 20, 1, 0);
        check.due("flash(0)", x.flash(0), 1);
        check.due("flash(1)", x.flash(1), QueueDrive.NONE);
        check.due("flash(2)", x.flash(2), QueueDrive.NONE);
        check.due("flash(3)", x.flash(3), 4);
    }

    private static void wordsThatLookLikeNothing() {
        check.about("each holds a word (an int) or nothing: odd words are words");
        int[] odd = {0, -1, -2, -3, (int) QueueDrive.NONE, Integer.MIN_VALUE, Integer.MAX_VALUE};
        for (int word : odd) {
            QueueDrive x = new QueueDrive(2);
            Check.run(x, Check.FORCE, 5, 1, word);
            check.due("flash(5)", x.flash(5), word);
        }
    }

    private static void wordsThatWrap() {
        check.about("The k-th word of it is v + k, which wraps: on the flash");
        QueueDrive x = new QueueDrive(1);
        long[] words = {2147483645, 2147483646, 2147483647, -2147483648, -2147483647, -2147483646};
        for (int i = 0; i < 3; i++) {
            Check.run(x, Check.FORCE, 4 * i, 4, Integer.MAX_VALUE - 2 + i);
            Check.run(x, Check.WRITE, 12 + 4 * i, 4, Integer.MAX_VALUE - 2 + i);
            Check.run(x, Check.FLUSH, 0, 0, 0);
            for (int k = 0; k < 4; k++) {
                check.due("forced, " + k, x.flash(4 * i + k), words[i + k]);
                check.due("flushed, " + k, x.flash(12 + 4 * i + k), words[i + k]);
            }
        }
    }

    /** The flash has at each address 100 more than its own number. */
    private static QueueDrive allForced() {
        QueueDrive x = new QueueDrive(6);
        for (int a = 0; a < 24; a += 4) {
            Check.run(x, Check.FORCE, a, 4, 100 + a);
        }
        return x;
    }
}
