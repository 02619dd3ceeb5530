/** Promise 10: flash. */
public final class Promise10FlashTest {
    private static final Check check = new Check();

    public static void main(String[] args) {
        everyAddressHasItsOwnWord();
        cacheIsNotSeen();
        check.end();
    }

    private static void everyAddressHasItsOwnWord() {
        QueueDrive x = new QueueDrive(6);
        for (int a = 0; a < 24; a += 4) {
            Check.run(x, Check.WRITE, a, 4, -1000 * a);
        }
        for (int a = 0; a < 24; a++) {
            check.due("cached: flash " + a, x.flash(a), QueueDrive.NONE);
        }
        Check.run(x, Check.FLUSH, 0, 0, 0);
        for (int a = 0; a < 24; a++) {
            check.due("stored: flash " + a, x.flash(a), -1000 * (a - a % 4) + a % 4);
        }
    }

    private static void cacheIsNotSeen() {
        QueueDrive x = new QueueDrive(3);
        Check.run(x, Check.FORCE, 4, 3, 1);
        Check.run(x, Check.WRITE, 5, 3, 20);
        Check.run(x, Check.WRITE, 6, 1, -1);
        Check.run(x, Check.DROP, 5, 1, 0);
        expect(x, QueueDrive.NONE, 1, 2, 3, QueueDrive.NONE, QueueDrive.NONE);
        Check.run(x, Check.WRITE, 5, 1, 0);
        expect(x, QueueDrive.NONE, 1, 20, 21, 22, QueueDrive.NONE);
        Check.run(x, Check.FLUSH, 0, 0, 0);
        expect(x, QueueDrive.NONE, 1, 0, -1, 22, QueueDrive.NONE);
    }

    private static void expect(QueueDrive x, long... words) {
        for (int i = 0; i < words.length; i++) {
            check.due("flash " + (3 + i), x.flash(3 + i), words[i]);
        }
    }
}
