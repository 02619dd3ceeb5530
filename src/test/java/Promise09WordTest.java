/** Promise 9: word. */
public final class Promise09WordTest {
    private static final Check check = new Check();

    public static void main(String[] args) {
        everyAddressHoldsItsOwnWord();
        cacheHidesFlash();
        check.end();
    }

    private static void everyAddressHoldsItsOwnWord() {
        QueueDrive x = new QueueDrive(6);
        for (int a = 0; a < 24; a += 4) {
            Check.run(x, Check.WRITE, a, 4, -1000 * a);
        }
        expectAll(x, "in the cache");
        Check.run(x, Check.FLUSH, 0, 0, 0);
        expectAll(x, "on the flash");
    }

    private static void expectAll(QueueDrive x, String where) {
        for (int a = 0; a < 24; a++) {
            check.due(where + ": word " + a, x.word(a), -1000 * (a - a % 4) + a % 4);
        }
    }

    private static void cacheHidesFlash() {
        QueueDrive x = new QueueDrive(3);
        Check.run(x, Check.FORCE, 4, 3, 1);
        Check.run(x, Check.WRITE, 5, 3, 20);
        Check.run(x, Check.WRITE, 6, 1, -1);
        Check.run(x, Check.DROP, 5, 1, 0);
        long[] held = {QueueDrive.NONE, 1, QueueDrive.NONE, -1, 22, QueueDrive.NONE};
        for (int i = 0; i < held.length; i++) {
            check.due("word " + (3 + i), x.word(3 + i), held[i]);
        }
        Check.run(x, Check.WRITE, 5, 1, 0);
        check.due("a word of 0 is a word", x.word(5), 0);
    }
}
