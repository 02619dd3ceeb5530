/** Promise 7: power. */
public final class Promise07PowerTest {
    private static final Check check = new Check();

    public static void main(String[] args) {
        check.due("a new drive", new QueueDrive(2).power(), 0);
        cacheAndQueuesAreLost();
        check.end();
    }

    private static void cacheAndQueuesAreLost() {
        QueueDrive x = new QueueDrive(3);
        Check.run(x, Check.FORCE, 0, 4, 1);
        Check.run(x, Check.WRITE, 1, 2, 50);
        Check.run(x, Check.WRITE, 20, 2, 60);
        Check.run(x, Check.DROP, 0, 1, 0);
        Check.run(x, Check.MATCH, 8, 3, 0);
        x.submit(0, Check.FORCE, 12, 1, 0);
        x.submit(1, Check.WRITE, 16, 1, 1);
        x.submit(2, Check.READ, 0, 4, 0);
        x.step(2, 0);
        check.due("power()", x.power(), 3);
        for (int a = 0; a < 24; a++) {
            check.due("word " + a, x.word(a), a < 4 ? a + 1 : QueueDrive.NONE);
            check.due("flash " + a, x.flash(a), a < 4 ? a + 1 : QueueDrive.NONE);
        }
        for (int queue = 0; queue < 3; queue++) {
            check.due("pending", x.queue(queue, 0), 0);
            check.due("completions", x.queue(queue, 1), 0);
            check.due("take", x.take(queue), QueueDrive.REFUSED);
            check.due("step", x.step(queue, 0), QueueDrive.REFUSED);
        }
        check.due("count(0)", x.count(0), 0);
        check.due("unit(0, 0)", x.unit(0, 0), QueueDrive.REFUSED);
        check.due("count(1)", x.count(1), 8);
        check.due("count(2)", x.count(2), 1);
        check.due("count(3)", x.count(3), 4);
        check.due("count(4)", x.count(4), 5);
        check.due("result()", x.result(), 3);
        check.due("again", x.power(), 0);
        check.due("the next write", Check.run(x, Check.WRITE, 3, 1, 9), 0);
        check.due("unit(0, 0)", x.unit(0, 0), 3);
        check.due("power()", x.power(), 1);
        check.due("word(3)", x.word(3), 4);
    }
}
