/** The edges of promise 4: take. */
public final class Edges04TakeTest {
    private static final Check check = new Check();

    public static void main(String[] args) {
        queueBeyondItsEnds();
        queueAtItsEnds();
        noneWasMade();
        allWereTaken();
        noneInThisQueue();
        noneAfterResetAndPowerLoss();
        fourAreTaken();
        roomGoesRound();
        check.end();
    }

    private static void queueBeyondItsEnds() {
        check.about("queue 0 .. 2: below and above");
        QueueDrive x = new QueueDrive(2);
        for (int queue = 0; queue <= 2; queue++) {
            Drives.complete(x, queue, 2);
        }
        x.take(1);
        String before = Check.state(x);
        for (int queue : new int[] {Integer.MIN_VALUE, -1, 3, Integer.MAX_VALUE}) {
            check.due("take(" + queue + ")", x.take(queue), QueueDrive.REFUSED);
        }
        check.same("the state", Check.state(x), before);
    }

    private static void queueAtItsEnds() {
        check.about("queue 0 .. 2: at both ends");
        QueueDrive x = new QueueDrive(2);
        for (int queue = 0; queue <= 2; queue++) {
            Drives.complete(x, queue, 1);
        }
        for (int queue = 2; queue >= 0; queue--) {
            check.due("take(" + queue + ")", x.take(queue), queue + 1);
            check.due("count(4)", x.count(4), queue + 1);
        }
    }

    private static void noneWasMade() {
        check.about("there is none: REFUSED: none was made yet");
        QueueDrive x = new QueueDrive(2);
        expectNone(x, "a new drive");
        for (int queue = 0; queue <= 2; queue++) {
            Drives.pend(x, queue, 4);
        }
        expectNone(x, "pending commands only");
    }

    private static void allWereTaken() {
        check.about("there is none: REFUSED: all were taken");
        QueueDrive x = new QueueDrive(2);
        for (int queue = 0; queue <= 2; queue++) {
            Drives.complete(x, queue, 3);
            x.take(queue);
            x.take(queue);
            x.take(queue);
        }
        expectNone(x, "all were taken");
        check.due("the TAKEN one stays", x.result(), 3);
        check.due("and its number", x.count(4), 9);
    }

    private static void noneInThisQueue() {
        check.about("there is none: REFUSED: another queue has some");
        QueueDrive x = new QueueDrive(2);
        Drives.complete(x, 1, 4);
        check.due("take(0)", x.take(0), QueueDrive.REFUSED);
        check.due("take(2)", x.take(2), QueueDrive.REFUSED);
        check.due("queue(1, 1)", x.queue(1, 1), 4);
        check.due("take(1)", x.take(1), 1);
    }

    private static void noneAfterResetAndPowerLoss() {
        check.about("there is none: REFUSED: they went with a reset or a power loss");
        QueueDrive reset = new QueueDrive(2);
        Drives.complete(reset, 0, 4);
        reset.reset();
        expectNone(reset, "after a reset");
        QueueDrive dark = new QueueDrive(2);
        Drives.complete(dark, 1, 4);
        dark.power();
        expectNone(dark, "after a power loss");
        QueueDrive cutOff = new QueueDrive(2);
        Drives.complete(cutOff, 2, 4);
        Drives.pend(cutOff, 0, 1);
        cutOff.powerDuring(0, 0, 30);
        expectNone(cutOff, "after a power loss during a command");
    }

    private static void fourAreTaken() {
        check.about("Takes the oldest completion: of four");
        QueueDrive x = new QueueDrive(2);
        Drives.complete(x, 2, 4);
        for (int i = 1; i <= 4; i++) {
            check.due("take(2)", x.take(2), i);
            check.due("result()", x.result(), i);
            check.due("queue(2, 1)", x.queue(2, 1), 4 - i);
        }
        check.due("a fifth", x.take(2), QueueDrive.REFUSED);
    }

    private static void roomGoesRound() {
        check.about("Takes the oldest completion: of a row that is used again");
        QueueDrive x = new QueueDrive(2);
        Drives.complete(x, 0, 4);
        for (int i = 5; i <= 20; i++) {
            check.due("take(0)", x.take(0), i - 4);
            check.due("result()", x.result(), 1 + (i - 1) % 4);
            x.submit(0, Check.MATCH, 0, 1 + (i - 1) % 4, 0);
            check.due("step(0, 0)", x.step(0, 0), i);
        }
    }

    private static void expectNone(QueueDrive x, String when) {
        String before = Check.state(x);
        for (int queue = 0; queue <= 2; queue++) {
            check.due(when + ": take(" + queue + ")", x.take(queue), QueueDrive.REFUSED);
        }
        check.same(when + ": the state", Check.state(x), before);
    }
}
