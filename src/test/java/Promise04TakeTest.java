/** Promise 4: take. */
public final class Promise04TakeTest {
    private static final Check check = new Check();

    public static void main(String[] args) {
        theOldestIsTaken();
        queuesAreApart();
        check.end();
    }

    private static void theOldestIsTaken() {
        QueueDrive x = new QueueDrive(2);
        x.submit(0, Check.MATCH, 0, 2, 0);
        x.submit(0, Check.MATCH, 0, 3, 0);
        x.submit(0, Check.MATCH, 0, 4, 0);
        x.step(0, 2);
        x.step(0, 0);
        x.step(0, 0);
        int[] numbers = {3, 1, 2};
        int[] results = {4, 2, 3};
        for (int i = 0; i < 3; i++) {
            check.due("take(0)", x.take(0), numbers[i]);
            check.due("result()", x.result(), results[i]);
            check.due("count(4)", x.count(4), numbers[i]);
            check.due("queue(0, 1)", x.queue(0, 1), 2 - i);
        }
        check.due("none left", x.take(0), QueueDrive.REFUSED);
        check.due("the taken one stays", x.result(), 3);
        check.due("and its number", x.count(4), 2);
    }

    private static void queuesAreApart() {
        QueueDrive x = new QueueDrive(2);
        x.submit(0, Check.READ, 0, 1, 0);
        x.submit(2, Check.MATCH, 0, 1, 0);
        x.step(2, 0);
        x.step(0, 0);
        check.due("take(1)", x.take(1), QueueDrive.REFUSED);
        check.due("take(2)", x.take(2), 2);
        check.due("queue(0, 1)", x.queue(0, 1), 1);
        check.due("take(0)", x.take(0), 1);
        check.due("result()", x.result(), 0);
    }
}
