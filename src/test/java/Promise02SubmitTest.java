/** Promise 2: submit. */
public final class Promise02SubmitTest {
    private static final Check check = new Check();

    public static void main(String[] args) {
        numbersRunOverAllQueues();
        edgesOfAddressesAreTaken();
        wrongNumbersAreRefused();
        flushLooksAtNothing();
        fullQueueIsFull();
        numbersAreTestedBeforeFull();
        submittingCarriesNothingOut();
        check.end();
    }

    private static void numbersRunOverAllQueues() {
        QueueDrive x = new QueueDrive(2);
        check.due("1st", x.submit(2, Check.READ, 0, 1, 0), 1);
        check.due("2nd", x.submit(0, Check.READ, 0, 1, 0), 2);
        check.due("refused", x.submit(0, Check.READ, 0, 0, 0), QueueDrive.REFUSED);
        check.due("3rd", x.submit(2, Check.MATCH, 0, 1, 0), 3);
        check.due("4th", x.submit(1, Check.FLUSH, 0, 1, 0), 4);
        check.due("queue(2, 2)", x.queue(2, 2), 1);
        check.due("queue(2, 3)", x.queue(2, 3), 3);
        check.due("queue(0, 2)", x.queue(0, 2), 2);
        check.due("queue(1, 2)", x.queue(1, 2), 4);
        x.step(2, 0);
        x.reset();
        check.due("after a reset", x.submit(1, Check.READ, 0, 1, 0), 5);
        x.power();
        check.due("after a power loss", x.submit(1, Check.READ, 0, 1, 0), 6);
    }

    private static void edgesOfAddressesAreTaken() {
        int[] kinds = {Check.READ, Check.WRITE, Check.FORCE, Check.DROP, Check.MATCH};
        for (int kind : kinds) {
            for (int n = 1; n <= 4; n++) {
                QueueDrive x = new QueueDrive(2);
                check.due("lowest, n " + n, x.submit(0, kind, 0, n, 0), 1);
                check.due("highest, n " + n, x.submit(0, kind, 24 - n, n, 0), 2);
                check.due("too high, n " + n, x.submit(0, kind, 25 - n, n, 0), QueueDrive.REFUSED);
                check.due("too low, n " + n, x.submit(0, kind, -1, n, 0), QueueDrive.REFUSED);
                for (int off : Check.FAR_OFF) {
                    check.due("a " + off, x.submit(0, kind, off, n, 0), QueueDrive.REFUSED);
                    check.due("n " + off, x.submit(0, kind, n, off, 0), QueueDrive.REFUSED);
                    check.due("both " + off, x.submit(0, kind, off, off, 0), QueueDrive.REFUSED);
                }
                check.due("n 0", x.submit(0, kind, n, 0, 0), QueueDrive.REFUSED);
                check.due("n 5", x.submit(0, kind, n, 5, 0), QueueDrive.REFUSED);
                check.due("n -1", x.submit(0, kind, n, -1, 0), QueueDrive.REFUSED);
            }
        }
    }

    private static void wrongNumbersAreRefused() {
        QueueDrive x = new QueueDrive(2);
        Check.run(x, Check.WRITE, 3, 2, 5);
        String before = Check.state(x);
        for (int off : Check.FAR_OFF) {
            check.due("queue " + off, x.submit(off, Check.WRITE, 0, 1, 0), QueueDrive.REFUSED);
            check.due("kind " + off, x.submit(0, off, 0, 1, 0), QueueDrive.REFUSED);
        }
        check.due("queue -1", x.submit(-1, Check.WRITE, 0, 1, 0), QueueDrive.REFUSED);
        check.due("queue 3", x.submit(3, Check.WRITE, 0, 1, 0), QueueDrive.REFUSED);
        check.due("flush in queue 3", x.submit(3, Check.FLUSH, 0, 1, 0), QueueDrive.REFUSED);
        check.due("kind -1", x.submit(0, -1, 0, 1, 0), QueueDrive.REFUSED);
        check.due("kind 6", x.submit(0, 6, 0, 1, 0), QueueDrive.REFUSED);
        check.same("the state after refusals", Check.state(x), before);
    }

    private static void flushLooksAtNothing() {
        for (int off : Check.FAR_OFF) {
            QueueDrive x = new QueueDrive(2);
            Check.run(x, Check.WRITE, 3, 2, 5);
            check.due("flush " + off, Check.run(x, Check.FLUSH, off, off, off), 1);
            check.due("flash(4)", x.flash(4), 6);
        }
    }

    private static void fullQueueIsFull() {
        QueueDrive x = new QueueDrive(2);
        for (int i = 1; i <= 4; i++) {
            check.due("submit " + i, x.submit(1, Check.WRITE, 0, 1, i), i);
        }
        String before = Check.state(x);
        check.due("a fifth", x.submit(1, Check.WRITE, 0, 1, 5), QueueDrive.FULL);
        check.due("a fifth flush", x.submit(1, Check.FLUSH, 0, 0, 0), QueueDrive.FULL);
        check.same("the state after FULL", Check.state(x), before);
        check.due("another queue", x.submit(0, Check.WRITE, 0, 1, 5), 5);
        x.step(1, 2);
        check.due("one was carried out", x.submit(1, Check.WRITE, 0, 1, 6), 6);
        check.due("queue(1, 4)", x.queue(1, 4), 4);
        check.due("queue(1, 5)", x.queue(1, 5), 6);
    }

    private static void numbersAreTestedBeforeFull() {
        QueueDrive x = new QueueDrive(2);
        for (int i = 1; i <= 4; i++) {
            x.submit(1, Check.WRITE, 0, 1, i);
        }
        check.due("kind 6", x.submit(1, 6, 0, 1, 0), QueueDrive.REFUSED);
        check.due("n 0", x.submit(1, Check.READ, 0, 0, 0), QueueDrive.REFUSED);
        check.due("a 24", x.submit(1, Check.READ, 24, 1, 0), QueueDrive.REFUSED);
    }

    private static void submittingCarriesNothingOut() {
        QueueDrive x = new QueueDrive(1);
        String before = Check.words(x);
        x.submit(0, Check.WRITE, 0, 4, 1);
        x.submit(0, Check.FORCE, 4, 4, 1);
        check.same("the words", Check.words(x), before);
        check.due("count(0)", x.count(0), 0);
        check.due("queue(0, 1)", x.queue(0, 1), 0);
    }
}
