/** Promise 11: queue. */
public final class Promise11QueueTest {
    private static final Check check = new Check();

    public static void main(String[] args) {
        countsAndNumbers();
        check.end();
    }

    private static void countsAndNumbers() {
        QueueDrive x = new QueueDrive(2);
        for (int i = 0; i < 4; i++) {
            x.submit(0, Check.READ, 0, 1, 0);
            x.submit(2, Check.READ, 0, 1, 0);
        }
        expect(x, 0, 4, 0, 1, 3, 5, 7);
        expect(x, 1, 0, 0, -1, -1, -1, -1);
        expect(x, 2, 4, 0, 2, 4, 6, 8);
        x.step(2, 1);
        x.step(2, 2);
        expect(x, 2, 2, 2, 2, 6, -1, -1);
        x.take(2);
        expect(x, 2, 2, 1, 2, 6, -1, -1);
        x.submit(2, Check.READ, 0, 1, 0);
        expect(x, 2, 3, 1, 2, 6, 9, -1);
        expect(x, 0, 4, 0, 1, 3, 5, 7);
        x.step(2, 0);
        x.step(2, 0);
        x.step(2, 0);
        expect(x, 2, 0, 4, -1, -1, -1, -1);
    }

    private static void expect(QueueDrive x, int queue, int... answers) {
        for (int what = 0; what < answers.length; what++) {
            check.due("queue(" + queue + ", " + what + ")", x.queue(queue, what), answers[what]);
        }
    }
}
