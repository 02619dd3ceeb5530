/** The edges of promise 1: a new object. */
public final class Edges01NewObjectTest {
    private static final Check check = new Check();

    public static void main(String[] args) {
        limit(Integer.MIN_VALUE, 1);
        limit(-1, 1);
        limit(0, 1);
        limit(1, 1);
        limit(2, 2);
        limit(5, 5);
        limit(6, 6);
        limit(7, 6);
        limit(8, 6);
        limit(Integer.MAX_VALUE, 6);
        limitOutlastsPowerLoss();
        nothingAtFirst();
        check.end();
    }

    private static void limit(int limit, int clamped) {
        check.about("limit: LIMIT, clamped to 1 .. 6: " + limit);
        QueueDrive x = new QueueDrive(limit);
        Drives.cache(x, clamped);
        check.due("count(0), as many units", x.count(0), clamped);
        check.due("count(2), none is stored for them", x.count(2), 0);
        Drives.cache(x, 1);
        check.due("count(0), one more", x.count(0), clamped);
        check.due("count(2), one is stored for it", x.count(2), 1);
    }

    private static void limitOutlastsPowerLoss() {
        check.about("at most LIMIT, after a reset and a power loss");
        QueueDrive x = new QueueDrive(4);
        Drives.cache(x, 4);
        x.reset();
        Drives.cache(x, 1);
        check.due("count(0) after a reset", x.count(0), 4);
        check.due("count(2) after a reset", x.count(2), 1);
        x.power();
        Drives.cache(x, 4);
        check.due("count(0) after a power loss", x.count(0), 4);
        check.due("count(2), with room for four", x.count(2), 1);
        Drives.cache(x, 1);
        check.due("count(2), without room", x.count(2), 2);
    }

    private static void nothingAtFirst() {
        check.about("each holds a word or nothing (at first)");
        int[] limits = {0, 1, 6, 7};
        for (int limit : limits) {
            QueueDrive x = new QueueDrive(limit);
            for (int a = 0; a < 24; a++) {
                check.due("word(" + a + ")", x.word(a), QueueDrive.NONE);
                check.due("flash(" + a + ")", x.flash(a), QueueDrive.NONE);
            }
        }
    }
}
