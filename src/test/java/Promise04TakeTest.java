/** Promise 4: take. */
public final class Promise04TakeTest {
    private static final Check check = new Check();

    public static void main(String[] args) {
        theOldestIsTaken();
        queuesAreApart();
        wrongQueuesAreRefused();
        roomIsUsedAgain();
        check.end();
    }

    private static void theOldestIsTaken() {
        QueueDrive x = new QueueDrive(2);
        x.submit(0, Check.MATCH, 0, 2, 0);
        x.submit(0, Check.MATCH, 0, 3, 0);
        x.submit(0, Check.MATCH, 0, 4, 0);
        x.step(0, 2);
        x.step(0, 0);
        x.step(0, 0);
        int[] numbers = {3, 1, 2};
        int[] results = {4, 2, 3};
        for (int i = 0; i < 3; i++) {
            check.due("take(0)", x.take(0), numbers[i]);
            check.due("result()", x.result(), results[i]);
            check.due("count(4)", x.count(4), numbers[i]);
            check.due("queue(0, 1)", x.queue(0, 1), 2 - i);
        }
        check.due("none left", x.take(0), QueueDrive.REFUSED);
        check.due("the taken one stays", x.result(), 3);
        check.due("and its number", x.count(4), 2);
    }

    private static void queuesAreApart() {
        QueueDrive x = new QueueDrive(2);
        x.submit(0, Check.READ, 0, 1, 0);
        x.submit(2, Check.MATCH, 0, 1, 0);
        x.step(2, 0);
        x.step(0, 0);
        check.due("take(1)", x.take(1), QueueDrive.REFUSED);
        check.due("take(2)", x.take(2), 2);
        check.due("queue(0, 1)", x.queue(0, 1), 1);
        check.due("take(0)", x.take(0), 1);
        check.due("result()", x.result(), 0);
    }

    private static void wrongQueuesAreRefused() {
        QueueDrive x = new QueueDrive(2);
        for (int queue = 0; queue < 3; queue++) {
            x.submit(queue, Check.WRITE, 0, 1, 0);
            x.step(queue, 0);
        }
        x.take(1);
        x.submit(1, Check.WRITE, 0, 1, 0);
        String before = Check.state(x);
        for (int off : Check.FAR_OFF) {
            check.due("take " + off, x.take(off), QueueDrive.REFUSED);
        }
        check.due("take(-1)", x.take(-1), QueueDrive.REFUSED);
        check.due("take(3)", x.take(3), QueueDrive.REFUSED);
        check.due("pending is not completed", x.take(1), QueueDrive.REFUSED);
        check.same("the state after refusals", Check.state(x), before);
    }

    private static void roomIsUsedAgain() {
        QueueDrive x = new QueueDrive(2);
        for (int i = 1; i <= 20; i++) {
            x.submit(0, Check.MATCH, 0, 1 + i % 4, 0);
            x.step(0, 0);
            if (i > 3) {
                check.due("take(0)", x.take(0), i - 3);
                check.due("result()", x.result(), 1 + (i - 3) % 4);
            }
        }
    }
}
