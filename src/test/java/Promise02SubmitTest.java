/** Promise 2: submit. */
public final class Promise02SubmitTest {
    private static final Check check = new Check();

    public static void main(String[] args) {
        numbersRunOverAllQueues();
        submittingCarriesNothingOut();
        check.end();
    }

    private static void numbersRunOverAllQueues() {
        QueueDrive x = new QueueDrive(2);
        check.due("1st", x.submit(2, Check.READ, 0, 1, 0), 1);
        check.due("2nd", x.submit(0, Check.READ, 0, 1, 0), 2);
        check.due("refused", x.submit(0, Check.READ, 0, 0, 0), QueueDrive.REFUSED);
        check.due("3rd", x.submit(2, Check.MATCH, 0, 1, 0), 3);
        check.due("4th", x.submit(1, Check.FLUSH, 0, 1, 0), 4);
        check.due("queue(2, 2)", x.queue(2, 2), 1);
        check.due("queue(2, 3)", x.queue(2, 3), 3);
        check.due("queue(0, 2)", x.queue(0, 2), 2);
        check.due("queue(1, 2)", x.queue(1, 2), 4);
        x.step(2, 0);
        x.reset();
        check.due("after a reset", x.submit(1, Check.READ, 0, 1, 0), 5);
        x.power();
        check.due("after a power loss", x.submit(1, Check.READ, 0, 1, 0), 6);
    }

    private static void submittingCarriesNothingOut() {
        QueueDrive x = new QueueDrive(1);
        String before = Check.words(x);
        x.submit(0, Check.WRITE, 0, 4, 1);
        x.submit(0, Check.FORCE, 4, 4, 1);
        check.same("the words", Check.words(x), before);
        check.due("count(0)", x.count(0), 0);
        check.due("queue(0, 1)", x.queue(0, 1), 0);
    }
}
