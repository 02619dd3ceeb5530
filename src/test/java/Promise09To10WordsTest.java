/** Promises 9 and 10: word and flash. */
public final class Promise09To10WordsTest {
    private static final Check check = new Check();

    public static void main(String[] args) {
        everyAddressHasItsOwnWord();
        cacheHidesFlash();
        check.end();
    }

    private static void everyAddressHasItsOwnWord() {
        QueueDrive x = new QueueDrive(6);
        for (int a = 0; a < 24; a += 4) {
            Check.run(x, Check.WRITE, a, 4, -1000 * a);
        }
        expectAll(x, false);
        Check.run(x, Check.FLUSH, 0, 0, 0);
        expectAll(x, true);
    }

    private static void expectAll(QueueDrive x, boolean stored) {
        for (int a = 0; a < 24; a++) {
            long word = -1000 * (a - a % 4) + a % 4;
            check.due("word " + a, x.word(a), word);
            check.due("flash " + a, x.flash(a), stored ? word : QueueDrive.NONE);
        }
    }

    private static void cacheHidesFlash() {
        QueueDrive x = new QueueDrive(3);
        Check.run(x, Check.FORCE, 4, 3, 1);
        Check.run(x, Check.WRITE, 5, 3, 20);
        Check.run(x, Check.WRITE, 6, 1, -1);
        Check.run(x, Check.DROP, 5, 1, 0);
        long[] held = {QueueDrive.NONE, 1, QueueDrive.NONE, -1, 22, QueueDrive.NONE};
        long[] stored = {QueueDrive.NONE, 1, 2, 3, QueueDrive.NONE, QueueDrive.NONE};
        for (int i = 0; i < held.length; i++) {
            check.due("word " + (3 + i), x.word(3 + i), held[i]);
            check.due("flash " + (3 + i), x.flash(3 + i), stored[i]);
        }
        Check.run(x, Check.WRITE, 5, 1, 0);
        check.due("a word of 0 is a word", x.word(5), 0);
    }
}
