/** The edges of promise 11: queue. */
public final class Edges11QueueTest {
    private static final Check check = new Check();

    public static void main(String[] args) {
        queueTooSmall();
        queueAtItsEnds();
        queueTooLarge();
        whatTooSmall();
        whatTooLarge();
        noneAtAll();
        noneThere();
        allThere();
        mostCompletions();
        check.end();
    }

    private static void queueTooSmall() {
        check.about("a queue 0 .. 2: below");
        for (int queue : new int[] {-1, -2, Integer.MIN_VALUE}) {
            expectNoQueue(queue);
        }
    }

    private static void queueAtItsEnds() {
        check.about("a queue 0 .. 2: at both ends");
        QueueDrive x = allFull();
        for (int queue = 0; queue <= 2; queue++) {
            check.due("queue(" + queue + ", 0)", x.queue(queue, 0), 4);
            check.due("queue(" + queue + ", 1)", x.queue(queue, 1), 1 + queue);
        }
    }

    private static void queueTooLarge() {
        check.about("a queue 0 .. 2: above");
        for (int queue : new int[] {3, 4, Integer.MAX_VALUE}) {
            expectNoQueue(queue);
        }
    }

    private static void expectNoQueue(int queue) {
        QueueDrive x = allFull();
        String before = Check.state(x);
        for (int what = -1; what <= 6; what++) {
            check.due("queue(" + queue + ", " + what + ")", x.queue(queue, what),
                    QueueDrive.REFUSED);
        }
        check.same("the state", Check.state(x), before);
    }

    private static void whatTooSmall() {
        check.about("Another what: REFUSED: below 0");
        for (int what : new int[] {-1, -2, Integer.MIN_VALUE}) {
            expectNoSuchWhat(what);
        }
    }

    private static void whatTooLarge() {
        check.about("Another what: REFUSED: above 5");
        for (int what : new int[] {6, 7, 8, 9, Integer.MAX_VALUE}) {
            expectNoSuchWhat(what);
        }
    }

    private static void expectNoSuchWhat(int what) {
        QueueDrive x = allFull();
        String before = Check.state(x);
        for (int queue = 0; queue <= 2; queue++) {
            check.due("queue(" + queue + ", " + what + ")", x.queue(queue, what),
                    QueueDrive.REFUSED);
        }
        check.same("the state", Check.state(x), before);
    }

    private static void noneAtAll() {
        check.about("REFUSED if there is none: an empty queue");
        QueueDrive x = new QueueDrive(2);
        Drives.pend(x, 1, 4);
        int[] answers = {0, 0, -1, -1, -1, -1};
        for (int what = 0; what <= 5; what++) {
            check.due("queue(0, " + what + ")", x.queue(0, what), answers[what]);
            check.due("queue(2, " + what + ")", x.queue(2, what), answers[what]);
        }
    }

    private static void noneThere() {
        check.about("REFUSED if there is none: with 1 .. 3 pending");
        for (int pending = 1; pending <= 3; pending++) {
            QueueDrive x = new QueueDrive(2);
            Drives.pend(x, 0, 4);
            for (int i = pending; i < 4; i++) {
                x.step(0, pending);
            }
            check.due("queue(0, 0)", x.queue(0, 0), pending);
            for (int i = 0; i <= 3; i++) {
                check.due("queue(0, " + (2 + i) + "), " + pending + " pending", x.queue(0, 2 + i),
                        i < pending ? i + 1 : QueueDrive.REFUSED);
            }
        }
    }

    private static void allThere() {
        check.about("2 .. 5 the number of its pending command 0 .. 3");
        QueueDrive x = allFull();
        for (int queue = 0; queue <= 2; queue++) {
            int first = x.queue(queue, 2);
            check.due("queue(" + queue + ", 2)", first, new int[] {2, 8, 15}[queue]);
            for (int i = 1; i <= 3; i++) {
                check.due("queue(" + queue + ", " + (2 + i) + ")", x.queue(queue, 2 + i),
                        first + i);
            }
        }
    }

    private static void mostCompletions() {
        check.about("1 its completions: 0 .. 4");
        QueueDrive x = new QueueDrive(2);
        for (int i = 1; i <= 4; i++) {
            Drives.complete(x, 2, 1);
            check.due("queue(2, 1)", x.queue(2, 1), i);
            check.due("queue(2, 0)", x.queue(2, 0), 0);
        }
        for (int i = 3; i >= 0; i--) {
            x.take(2);
            check.due("queue(2, 1)", x.queue(2, 1), i);
        }
        x.take(2);
        check.due("none to take", x.queue(2, 1), 0);
    }

    /** Each queue has 4 pending commands, and as many completions as its number and one more. */
    private static QueueDrive allFull() {
        QueueDrive x = new QueueDrive(2);
        for (int queue = 0; queue <= 2; queue++) {
            Drives.complete(x, queue, 1 + queue);
            Drives.pend(x, queue, 4);
        }
        return x;
    }
}
