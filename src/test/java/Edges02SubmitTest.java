/** The edges of promise 2: submit. */
public final class Edges02SubmitTest {
    private static final int[] WITH_ADDRESSES = {Check.READ, Check.WRITE, Check.FORCE, Check.DROP,
        Check.MATCH};
    private static final Check check = new Check();

    public static void main(String[] args) {
        queueTooSmall();
        queueAtItsEnds();
        queueTooLarge();
        kindTooSmall();
        kindAtItsEnds();
        kindTooLarge();
        lengthTooSmall();
        lengthAtItsEnds();
        lengthTooLarge();
        addressTooSmall();
        addressAtItsEnds();
        addressTooLarge();
        sumThatWouldWrap();
        flushLooksAtNothing();
        flushIsRefusedForItsQueue();
        threeArePending();
        fourArePending();
        fullIsForOneQueue();
        fullEndsWithRoom();
        numbersComeBeforeFull();
        refusedCallsUseNoNumber();
        lastOfItsQueue();
        check.end();
    }

    private static void queueTooSmall() {
        check.about("Queue 0 .. 2: below");
        for (int queue : new int[] {-1, -2, Integer.MIN_VALUE}) {
            expectRefused(queue, Check.WRITE, 0, 1);
        }
    }

    private static void queueAtItsEnds() {
        check.about("Queue 0 .. 2: at both ends");
        for (int queue = 0; queue <= 2; queue++) {
            QueueDrive x = new QueueDrive(2);
            check.due("queue " + queue, x.submit(queue, Check.WRITE, 0, 1, 0), 1);
            for (int other = 0; other <= 2; other++) {
                check.due("pending of " + other, x.queue(other, 0), other == queue ? 1 : 0);
            }
        }
    }

    private static void queueTooLarge() {
        check.about("Queue 0 .. 2: above");
        for (int queue : new int[] {3, 4, Integer.MAX_VALUE}) {
            expectRefused(queue, Check.WRITE, 0, 1);
        }
    }

    private static void kindTooSmall() {
        check.about("KIND 0 .. 5: below");
        for (int kind : new int[] {-1, -2, Integer.MIN_VALUE}) {
            expectRefused(0, kind, 0, 1);
        }
    }

    private static void kindAtItsEnds() {
        check.about("KIND 0 .. 5: at both ends and between");
        for (int kind = 0; kind <= 5; kind++) {
            expectTaken(kind, 0, 1);
        }
    }

    private static void kindTooLarge() {
        check.about("KIND 0 .. 5: above");
        for (int kind : new int[] {6, 7, Integer.MAX_VALUE}) {
            expectRefused(0, kind, 0, 1);
        }
    }

    private static void lengthTooSmall() {
        check.about("n not 1 .. 4: below");
        for (int kind : WITH_ADDRESSES) {
            for (int n : new int[] {0, -1, -4, Integer.MIN_VALUE}) {
                expectRefused(0, kind, 10, n);
            }
        }
    }

    private static void lengthAtItsEnds() {
        check.about("n not 1 .. 4: at both ends and between");
        for (int kind : WITH_ADDRESSES) {
            for (int n = 1; n <= 4; n++) {
                expectTaken(kind, 10, n);
            }
        }
    }

    private static void lengthTooLarge() {
        check.about("n not 1 .. 4: above");
        for (int kind : WITH_ADDRESSES) {
            for (int n : new int[] {5, 6, 24, Integer.MAX_VALUE}) {
                expectRefused(0, kind, 0, n);
            }
        }
    }

    private static void addressTooSmall() {
        check.about("a below 0");
        for (int kind : WITH_ADDRESSES) {
            for (int n = 1; n <= 4; n++) {
                for (int a : new int[] {-1, -n, -n - 1, Integer.MIN_VALUE}) {
                    expectRefused(0, kind, a, n);
                }
            }
        }
    }

    private static void addressAtItsEnds() {
        check.about("a below 0 or a + n above 24: at both ends");
        for (int kind : WITH_ADDRESSES) {
            for (int n = 1; n <= 4; n++) {
                expectTaken(kind, 0, n);
                expectTaken(kind, 24 - n, n);
            }
        }
    }

    private static void addressTooLarge() {
        check.about("a + n above 24");
        for (int kind : WITH_ADDRESSES) {
            for (int n = 1; n <= 4; n++) {
                for (int a : new int[] {25 - n, 24, 25, 1000}) {
                    expectRefused(0, kind, a, n);
                }
            }
        }
    }

    private static void sumThatWouldWrap() {
        check.about("a + n above 24: a sum that is no int");
        for (int kind : WITH_ADDRESSES) {
            for (int n = 1; n <= 4; n++) {
                for (int less = 0; less < 6; less++) {
                    expectRefused(0, kind, Integer.MAX_VALUE - less, n);
                    expectRefused(0, kind, n, Integer.MAX_VALUE - less);
                }
            }
        }
    }

    private static void flushLooksAtNothing() {
        check.about("If the KIND is not 3; a, n and v are not looked at");
        int[] odd = {Integer.MIN_VALUE, -1, 0, 4, 5, 24, Integer.MAX_VALUE};
        for (int a : odd) {
            for (int n : odd) {
                QueueDrive x = new QueueDrive(3);
                Drives.cache(x, 3);
                String call = "a flush with " + a + ", " + n;
                check.due(call, x.submit(0, Check.FLUSH, a, n, a ^ n), 4);
                check.due(call + ": step", x.step(0, 0), 4);
                check.due(call + ": take", x.take(0), 4);
                check.due(call + ": result", x.result(), 3);
                check.due(call + ": flash(2)", x.flash(2), 2);
                check.due(call + ": flash(3)", x.flash(3), QueueDrive.NONE);
            }
        }
    }

    private static void flushIsRefusedForItsQueue() {
        check.about("Queue 0 .. 2, KIND 0 .. 5: a flush in no queue");
        expectRefused(-1, Check.FLUSH, 0, 1);
        expectRefused(3, Check.FLUSH, 0, 1);
    }

    private static void threeArePending() {
        check.about("The queue has 4 pending commands: it has three");
        for (int kind = 0; kind <= 5; kind++) {
            QueueDrive x = new QueueDrive(2);
            Drives.pend(x, 1, 3);
            check.due("kind " + kind, x.submit(1, kind, 0, 1, 0), 4);
            check.due("queue(1, 0)", x.queue(1, 0), 4);
        }
    }

    private static void fourArePending() {
        check.about("The queue has 4 pending commands: FULL");
        for (int queue = 0; queue <= 2; queue++) {
            for (int kind = 0; kind <= 5; kind++) {
                QueueDrive x = new QueueDrive(2);
                Drives.pend(x, queue, 4);
                String before = Check.state(x);
                check.due("kind " + kind, x.submit(queue, kind, 0, 1, 0), QueueDrive.FULL);
                check.same("the state", Check.state(x), before);
            }
        }
        QueueDrive x = new QueueDrive(2);
        Drives.pend(x, 0, 4);
        check.due("a flush with odd numbers", x.submit(0, Check.FLUSH, -1, 9, 0), QueueDrive.FULL);
    }

    private static void fullIsForOneQueue() {
        check.about("The queue has 4 pending commands: another has them");
        QueueDrive x = new QueueDrive(2);
        Drives.pend(x, 0, 4);
        Drives.pend(x, 2, 4);
        check.due("submit(1, ..)", x.submit(1, Check.READ, 0, 1, 0), 9);
        check.due("submit(0, ..)", x.submit(0, Check.READ, 0, 1, 0), QueueDrive.FULL);
        check.due("submit(2, ..)", x.submit(2, Check.READ, 0, 1, 0), QueueDrive.FULL);
    }

    private static void fullEndsWithRoom() {
        check.about("The queue has 4 pending commands: no more");
        QueueDrive x = new QueueDrive(2);
        Drives.pend(x, 0, 4);
        x.step(0, 3);
        check.due("after a step", x.submit(0, Check.READ, 0, 1, 0), 5);
        check.due("full again", x.submit(0, Check.READ, 0, 1, 0), QueueDrive.FULL);
        x.reset();
        check.due("after a reset", x.submit(0, Check.READ, 0, 1, 0), 6);
        Drives.pend(x, 0, 3);
        x.power();
        check.due("after a power loss", x.submit(0, Check.READ, 0, 1, 0), 10);
        Drives.pend(x, 0, 3);
        x.powerDuring(0, 0, 0);
        check.due("after another", x.submit(0, Check.READ, 0, 1, 0), 14);
        Drives.complete(x, 1, 4);
        Drives.pend(x, 1, 3);
        check.due("completions don't count", x.submit(1, Check.READ, 0, 1, 0), 22);
        check.due("but pending ones do", x.submit(1, Check.READ, 0, 1, 0), QueueDrive.FULL);
    }

    private static void numbersComeBeforeFull() {
        check.about("Every call tests its numbers first: before FULL");
        QueueDrive x = new QueueDrive(2);
        for (int queue = 0; queue <= 2; queue++) {
            Drives.pend(x, queue, 4);
        }
        check.due("queue -1", x.submit(-1, Check.READ, 0, 1, 0), QueueDrive.REFUSED);
        check.due("queue 3", x.submit(3, Check.READ, 0, 1, 0), QueueDrive.REFUSED);
        check.due("KIND -1", x.submit(0, -1, 0, 1, 0), QueueDrive.REFUSED);
        check.due("KIND 6", x.submit(0, 6, 0, 1, 0), QueueDrive.REFUSED);
        check.due("n 0", x.submit(0, Check.READ, 0, 0, 0), QueueDrive.REFUSED);
        check.due("n 5", x.submit(0, Check.READ, 0, 5, 0), QueueDrive.REFUSED);
        check.due("a -1", x.submit(0, Check.READ, -1, 1, 0), QueueDrive.REFUSED);
        check.due("a 24", x.submit(0, Check.READ, 24, 1, 0), QueueDrive.REFUSED);
        check.due("all in range", x.submit(0, Check.READ, 23, 1, 0), QueueDrive.FULL);
    }

    private static void refusedCallsUseNoNumber() {
        check.about("A command has a number, 1, 2, ..: none for a refused one");
        QueueDrive x = new QueueDrive(2);
        x.submit(3, Check.READ, 0, 1, 0);
        x.submit(0, 6, 0, 1, 0);
        check.due("the first", x.submit(0, Check.READ, 0, 1, 0), 1);
        x.submit(0, Check.READ, 0, 5, 0);
        x.submit(0, Check.READ, 24, 1, 0);
        check.due("the second", x.submit(1, Check.READ, 0, 1, 0), 2);
        Drives.pend(x, 0, 3);
        x.submit(0, Check.READ, 0, 1, 0);
        x.submit(0, Check.FLUSH, 0, 1, 0);
        check.due("after FULL", x.submit(2, Check.READ, 0, 1, 0), 6);
        check.due("count(1)", x.count(1), 6);
    }

    private static void lastOfItsQueue() {
        check.about("The command is pending, the last of its queue: a row that is used again");
        QueueDrive x = new QueueDrive(6);
        Drives.pend(x, 0, 4);
        x.step(0, 1);
        x.submit(0, Check.FORCE, 3, 2, 8);
        int[] numbers = {1, 3, 4, 5};
        for (int i = 0; i < 4; i++) {
            check.due("queue(0, " + (2 + i) + ")", x.queue(0, 2 + i), numbers[i]);
        }
        x.step(0, 3);
        check.due("it was the last one", x.flash(4), 9);
    }

    private static void expectTaken(int kind, int a, int n) {
        QueueDrive x = new QueueDrive(2);
        String call = "submit(0, " + kind + ", " + a + ", " + n + ", 5)";
        check.due(call, x.submit(0, kind, a, n, 5), 1);
        check.due(call + ": pending", x.queue(0, 0), 1);
        check.due(call + ": its number", x.queue(0, 2), 1);
        check.due(call + ": step", x.step(0, 0), 1);
    }

    private static void expectRefused(int queue, int kind, int a, int n) {
        QueueDrive x = new QueueDrive(2);
        String call = "submit(" + queue + ", " + kind + ", " + a + ", " + n + ", 5)";
        check.due(call, x.submit(queue, kind, a, n, 5), QueueDrive.REFUSED);
        check.due(call + ": no number", x.count(1), 0);
        for (int each = 0; each <= 2; each++) {
            check.due(call + ": pending of " + each, x.queue(each, 0), 0);
        }
    }
}
