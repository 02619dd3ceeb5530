/** The edges of promise 3: step. */
public final class Edges03StepTest {
    private static final Check check = new Check();

    public static void main(String[] args) {
        queueBeyondItsEnds();
        queueAtItsEnds();
        pickBeyondItsEnds();
        pickAtItsEnds();
        noSuchCommand();
        noCommandAtAll();
        threeCompletions();
        fourCompletions();
        busyIsForOneQueue();
        busyEndsWithRoom();
        noSuchCommandComesBeforeBusy();
        pendingNoMore();
        completionIsTheLast();
        check.end();
    }

    private static void queueBeyondItsEnds() {
        check.about("Queue 0 .. 2: below and above");
        QueueDrive x = new QueueDrive(2);
        for (int queue = 0; queue <= 2; queue++) {
            Drives.pend(x, queue, 1);
        }
        String before = Check.state(x);
        for (int queue : new int[] {Integer.MIN_VALUE, -1, 3, Integer.MAX_VALUE}) {
            check.due("step(" + queue + ", 0)", x.step(queue, 0), QueueDrive.REFUSED);
        }
        check.same("the state", Check.state(x), before);
    }

    private static void queueAtItsEnds() {
        check.about("Queue 0 .. 2: at both ends");
        QueueDrive x = new QueueDrive(2);
        for (int queue = 0; queue <= 2; queue++) {
            Drives.pend(x, queue, 1);
        }
        for (int queue = 2; queue >= 0; queue--) {
            check.due("step(" + queue + ", 0)", x.step(queue, 0), queue + 1);
            check.due("its completion", x.queue(queue, 1), 1);
        }
    }

    private static void pickBeyondItsEnds() {
        check.about("pick 0 .. 3: below and above");
        QueueDrive x = new QueueDrive(2);
        Drives.pend(x, 1, 4);
        String before = Check.state(x);
        for (int pick : new int[] {Integer.MIN_VALUE, -1, 4, 5, Integer.MAX_VALUE}) {
            check.due("step(1, " + pick + ")", x.step(1, pick), QueueDrive.REFUSED);
        }
        check.same("the state", Check.state(x), before);
    }

    private static void pickAtItsEnds() {
        check.about("pick 0 .. 3 counts its pending commands from the oldest");
        for (int pick = 0; pick <= 3; pick++) {
            QueueDrive x = new QueueDrive(2);
            Drives.pend(x, 2, 4);
            check.due("step(2, " + pick + ")", x.step(2, pick), pick + 1);
            x.take(2);
            check.due("its result", x.result(), pick + 1);
        }
    }

    private static void noSuchCommand() {
        check.about("no such one: REFUSED: with 1 .. 3 pending");
        for (int pending = 1; pending <= 3; pending++) {
            QueueDrive x = new QueueDrive(2);
            Drives.pend(x, 0, pending);
            Drives.pend(x, 1, 4);
            String before = Check.state(x);
            for (int pick = pending; pick <= 3; pick++) {
                check.due("step(0, " + pick + ")", x.step(0, pick), QueueDrive.REFUSED);
            }
            check.same("the state", Check.state(x), before);
            check.due("the last one", x.step(0, pending - 1), pending);
        }
    }

    private static void noCommandAtAll() {
        check.about("no such one: REFUSED: with none pending");
        expectNone(new QueueDrive(2), "a new drive");
        QueueDrive done = new QueueDrive(2);
        Drives.complete(done, 0, 2);
        expectNone(done, "all were carried out");
        QueueDrive reset = new QueueDrive(2);
        Drives.pend(reset, 0, 2);
        reset.reset();
        expectNone(reset, "after a reset");
        QueueDrive dark = new QueueDrive(2);
        Drives.pend(dark, 0, 2);
        dark.power();
        expectNone(dark, "after a power loss");
        QueueDrive cutOff = new QueueDrive(2);
        Drives.pend(cutOff, 0, 2);
        cutOff.powerDuring(0, 0, 0);
        expectNone(cutOff, "after a power loss during a command");
    }

    private static void expectNone(QueueDrive x, String when) {
        String before = Check.state(x);
        for (int pick = 0; pick <= 3; pick++) {
            check.due(when + ": step(0, " + pick + ")", x.step(0, pick), QueueDrive.REFUSED);
        }
        check.same(when + ": the state", Check.state(x), before);
    }

    private static void threeCompletions() {
        check.about("The queue has 4 completions: it has three");
        QueueDrive x = new QueueDrive(2);
        Drives.complete(x, 0, 3);
        Drives.pend(x, 0, 1);
        check.due("step(0, 0)", x.step(0, 0), 4);
        check.due("queue(0, 1)", x.queue(0, 1), 4);
    }

    private static void fourCompletions() {
        check.about("The queue has 4 completions: BUSY");
        for (int queue = 0; queue <= 2; queue++) {
            for (int kind = 0; kind <= 5; kind++) {
                QueueDrive x = new QueueDrive(1);
                Drives.cache(x, 1);
                Drives.complete(x, queue, 4);
                x.submit(queue, kind, 0, 4, 70);
                String before = Check.state(x);
                check.due("kind " + kind, x.step(queue, 0), QueueDrive.BUSY);
                check.same("the state", Check.state(x), before);
                x.take(queue);
                check.due("it can still be carried out", x.step(queue, 0), 6);
            }
        }
    }

    private static void busyIsForOneQueue() {
        check.about("The queue has 4 completions: another has them");
        QueueDrive x = new QueueDrive(2);
        Drives.complete(x, 0, 4);
        Drives.complete(x, 2, 4);
        for (int queue = 0; queue <= 2; queue++) {
            Drives.pend(x, queue, 1);
        }
        check.due("step(0, 0)", x.step(0, 0), QueueDrive.BUSY);
        check.due("step(1, 0)", x.step(1, 0), 10);
        check.due("step(2, 0)", x.step(2, 0), QueueDrive.BUSY);
    }

    private static void busyEndsWithRoom() {
        check.about("The queue has 4 completions: no more");
        QueueDrive x = new QueueDrive(2);
        Drives.complete(x, 0, 4);
        Drives.pend(x, 0, 2);
        x.take(0);
        check.due("after a take", x.step(0, 0), 5);
        check.due("busy again", x.step(0, 0), QueueDrive.BUSY);
        x.reset();
        Drives.complete(x, 0, 3);
        Drives.pend(x, 0, 1);
        check.due("after a reset", x.step(0, 0), 10);
        x.power();
        Drives.complete(x, 0, 3);
        Drives.pend(x, 0, 1);
        check.due("after a power loss", x.step(0, 0), 14);
    }

    private static void noSuchCommandComesBeforeBusy() {
        check.about("no such one: REFUSED, then BUSY");
        QueueDrive x = new QueueDrive(2);
        Drives.complete(x, 1, 4);
        for (int pick = -1; pick <= 4; pick++) {
            check.due("none pending, pick " + pick, x.step(1, pick), QueueDrive.REFUSED);
        }
        Drives.pend(x, 1, 2);
        for (int pick = -1; pick <= 4; pick++) {
            boolean there = pick == 0 || pick == 1;
            check.due("two pending, pick " + pick, x.step(1, pick),
                    there ? QueueDrive.BUSY : QueueDrive.REFUSED);
        }
        check.due("queue 3", x.step(3, 0), QueueDrive.REFUSED);
    }

    private static void pendingNoMore() {
        check.about("It is carried out and pending no more: the first, one between, the last");
        int[][] left = {{2, 3, 4}, {1, 3, 4}, {1, 2, 4}, {1, 2, 3}};
        for (int pick = 0; pick <= 3; pick++) {
            QueueDrive x = new QueueDrive(2);
            Drives.pend(x, 0, 4);
            x.step(0, pick);
            check.due("queue(0, 0)", x.queue(0, 0), 3);
            for (int i = 0; i < 3; i++) {
                check.due("pick " + pick + ", left " + i, x.queue(0, 2 + i), left[pick][i]);
            }
            check.due("queue(0, 5)", x.queue(0, 5), QueueDrive.REFUSED);
            for (int i = 0; i < 3; i++) {
                check.due("pick " + pick + ", step " + i, x.step(0, 0), left[pick][i]);
            }
        }
    }

    private static void completionIsTheLast() {
        check.about("a completion with its number and result as the last one: of four");
        QueueDrive x = new QueueDrive(2);
        Drives.pend(x, 0, 4);
        int[] picks = {2, 2, 0, 0};
        int[] numbers = {3, 4, 1, 2};
        for (int pick : picks) {
            x.step(0, pick);
        }
        for (int number : numbers) {
            check.due("take(0)", x.take(0), number);
            check.due("result()", x.result(), number);
        }
    }
}
