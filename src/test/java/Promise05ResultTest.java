/** Promise 5: result. */
public final class Promise05ResultTest {
    private static final Check check = new Check();

    public static void main(String[] args) {
        theResultIsThatOfTheTime();
        check.end();
    }

    private static void theResultIsThatOfTheTime() {
        QueueDrive x = new QueueDrive(2);
        Check.run(x, Check.WRITE, 0, 1, 5);
        x.submit(0, Check.READ, 0, 1, 0);
        x.submit(1, Check.READ, 0, 1, 0);
        x.step(0, 0);
        x.submit(2, Check.WRITE, 0, 1, -6);
        x.step(2, 0);
        x.step(1, 0);
        x.take(0);
        check.due("read before the write", x.result(), 5);
        x.take(1);
        check.due("read after the write", x.result(), -6);
        x.submit(0, Check.MATCH, 0, 4, 0);
        x.step(0, 0);
        check.due("a step takes nothing", x.result(), -6);
        x.reset();
        check.due("after a reset", x.result(), -6);
        x.power();
        check.due("after a power loss", x.result(), -6);
    }
}
