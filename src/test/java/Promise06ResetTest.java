/** Promise 6: reset. */
public final class Promise06ResetTest {
    private static final Check check = new Check();

    public static void main(String[] args) {
        check.due("a new drive", new QueueDrive(2).reset(), 0);
        queuesAreCleared();
        check.end();
    }

    private static void queuesAreCleared() {
        QueueDrive x = new QueueDrive(2);
        Check.run(x, Check.FORCE, 0, 4, 1);
        Check.run(x, Check.WRITE, 1, 2, 50);
        Check.run(x, Check.MATCH, 8, 3, 0);
        for (int i = 0; i < 4; i++) {
            x.submit(0, Check.FORCE, 12, 1, i);
        }
        x.submit(1, Check.WRITE, 16, 1, 1);
        x.submit(2, Check.READ, 0, 4, 0);
        x.submit(2, Check.READ, 0, 4, 0);
        x.step(2, 0);
        String words = Check.words(x);
        check.due("reset()", x.reset(), 6);
        for (int queue = 0; queue < 3; queue++) {
            check.due("pending", x.queue(queue, 0), 0);
            check.due("completions", x.queue(queue, 1), 0);
            check.due("a pending one", x.queue(queue, 2), QueueDrive.REFUSED);
            check.due("take", x.take(queue), QueueDrive.REFUSED);
            check.due("step", x.step(queue, 0), QueueDrive.REFUSED);
        }
        check.same("the words", Check.words(x), words);
        check.due("count(0)", x.count(0), 1);
        check.due("unit(0, 0)", x.unit(0, 0), 1);
        check.due("count(1)", x.count(1), 10);
        check.due("count(2)", x.count(2), 1);
        check.due("count(3)", x.count(3), 4);
        check.due("count(4)", x.count(4), 3);
        check.due("result()", x.result(), 3);
        check.due("again", x.reset(), 0);
        check.due("a read in the cleared queue", Check.run(x, Check.READ, 0, 4, 0), 106);
    }
}
