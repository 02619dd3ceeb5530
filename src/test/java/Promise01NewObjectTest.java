/** Promise 1: a new object holds nothing, and keeps its limit. */
public final class Promise01NewObjectTest {
    private static final Check check = new Check();

    public static void main(String[] args) {
        holdsNothing();
        for (int limit = 1; limit <= 6; limit++) {
            keepsLimit(limit);
        }
        objectsAreApart();
        check.end();
    }

    private static void holdsNothing() {
        QueueDrive x = new QueueDrive(3);
        for (int a = 0; a < 24; a++) {
            check.due("word of a new drive", x.word(a), QueueDrive.NONE);
            check.due("flash of a new drive", x.flash(a), QueueDrive.NONE);
        }
        for (int queue = 0; queue < 3; queue++) {
            check.due("pending of a new drive", x.queue(queue, 0), 0);
            check.due("completions of a new drive", x.queue(queue, 1), 0);
        }
        for (int what = 0; what <= 4; what++) {
            check.due("count of a new drive", x.count(what), 0);
        }
        check.due("result of a new drive", x.result(), QueueDrive.NONE);
        check.due("take of a new drive", x.take(0), QueueDrive.REFUSED);
        check.due("unit of a new drive", x.unit(0, 0), QueueDrive.REFUSED);
    }

    private static void keepsLimit(int limit) {
        QueueDrive x = new QueueDrive(limit);
        for (int i = 0; i < 8; i++) {
            Check.run(x, Check.WRITE, i, 1, i);
            check.due("limit " + limit + ": count(0)", x.count(0), Math.min(i + 1, limit));
            check.due("limit " + limit + ": count(2)", x.count(2), Math.max(0, i + 1 - limit));
        }
    }

    private static void objectsAreApart() {
        QueueDrive x = new QueueDrive(1);
        QueueDrive y = new QueueDrive(1);
        String before = Check.state(y);
        Check.run(x, Check.WRITE, 0, 4, 1);
        Check.run(x, Check.FORCE, 2, 4, 1);
        x.submit(1, Check.READ, 0, 1, 0);
        check.same("another drive", Check.state(y), before);
    }
}
