/** Promise 13: count. */
public final class Promise13CountTest {
    private static final Check check = new Check();

    public static void main(String[] args) {
        everyCount();
        check.end();
    }

    private static void everyCount() {
        QueueDrive x = new QueueDrive(2);
        expect(x, 0, 0, 0, 0, 0);
        x.submit(1, Check.WRITE, 0, 3, 1);
        expect(x, 0, 1, 0, 0, 0);
        x.step(1, 0);
        expect(x, 1, 1, 0, 0, 0);
        x.take(1);
        expect(x, 1, 1, 0, 0, 1);
        Check.run(x, Check.WRITE, 0, 2, 1);
        Check.run(x, Check.DROP, 0, 4, 1);
        expect(x, 2, 3, 1, 3, 3);
        Check.run(x, Check.FORCE, 0, 1, 1);
        expect(x, 0, 4, 4, 10, 4);
        Check.run(x, Check.WRITE, 0, 4, 1);
        Check.run(x, Check.WRITE, 0, 4, 1);
        x.submit(0, Check.FLUSH, 0, 0, 0);
        x.powerDuring(0, 0, 7);
        expect(x, 0, 7, 5, 17, 6);
        x.reset();
        x.power();
        expect(x, 0, 7, 5, 17, 6);
        Check.run(x, Check.FLUSH, 0, 0, 0);
        expect(x, 0, 8, 5, 17, 8);
    }

    private static void expect(QueueDrive x, int... answers) {
        for (int what = 0; what < answers.length; what++) {
            check.due("count(" + what + ")", x.count(what), answers[what]);
        }
    }
}
