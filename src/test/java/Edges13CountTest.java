/** The edges of promise 13: count. */
public final class Edges13CountTest {
    private static final Check check = new Check();

    public static void main(String[] args) {
        whatTooSmall();
        whatTooLarge();
        whatAtItsEnds();
        noCommandYet();
        noneTakenYet();
        unitsUpToTheLimit();
        pagesOfAUnit();
        pagesCutOff();
        countsOutlastPowerLoss();
        check.end();
    }

    private static void whatTooSmall() {
        check.about("Another what: REFUSED: below 0");
        for (int what : new int[] {-1, -2, Integer.MIN_VALUE}) {
            expectNoSuchWhat(what);
        }
    }

    private static void whatTooLarge() {
        check.about("Another what: REFUSED: above 4");
        for (int what : new int[] {5, 6, Integer.MAX_VALUE}) {
            expectNoSuchWhat(what);
        }
    }

    private static void expectNoSuchWhat(int what) {
        QueueDrive x = differentCounts();
        String before = Check.state(x);
        check.due("count(" + what + ")", x.count(what), QueueDrive.REFUSED);
        check.same("the state", Check.state(x), before);
    }

    private static void whatAtItsEnds() {
        check.about("What: 0 .. 4");
        QueueDrive x = differentCounts();
        int[] counts = {2, 5, 1, 4, 3};
        for (int what = 0; what <= 4; what++) {
            check.due("count(" + what + ")", x.count(what), counts[what]);
        }
    }

    private static void noCommandYet() {
        check.about("1 the number of the latest command, 0 if there was none");
        QueueDrive x = new QueueDrive(2);
        check.due("a new drive", x.count(1), 0);
        x.submit(3, Check.READ, 0, 1, 0);
        x.submit(0, Check.READ, 0, 0, 0);
        x.reset();
        x.power();
        check.due("none but refused ones", x.count(1), 0);
        Drives.pend(x, 2, 1);
        check.due("the first", x.count(1), 1);
        x.power();
        check.due("it is gone, but was the latest", x.count(1), 1);
        Drives.pend(x, 0, 4);
        x.submit(0, Check.READ, 0, 1, 0);
        check.due("after FULL", x.count(1), 5);
    }

    private static void noneTakenYet() {
        check.about("4 the number of the TAKEN completion's command, 0 if none was taken yet");
        QueueDrive x = new QueueDrive(2);
        check.due("a new drive", x.count(4), 0);
        Drives.complete(x, 0, 2);
        x.take(1);
        check.due("two are completed", x.count(4), 0);
        x.take(0);
        check.due("the first is taken", x.count(4), 1);
        x.reset();
        x.take(0);
        check.due("the second was lost", x.count(4), 1);
    }

    private static void unitsUpToTheLimit() {
        check.about("0 UNITS in the cache; 2 UNITS that were stored: about each LIMIT");
        for (int limit = 1; limit <= 6; limit++) {
            QueueDrive x = new QueueDrive(limit);
            for (int i = 1; i <= 9; i++) {
                Drives.cache(x, 1);
                check.due("limit " + limit + ": count(0)", x.count(0), Math.min(i, limit));
                check.due("limit " + limit + ": count(2)", x.count(2), Math.max(0, i - limit));
                check.due("limit " + limit + ": count(3)", x.count(3), Math.max(0, i - limit));
            }
        }
    }

    private static void pagesOfAUnit() {
        check.about("as many pages as it has addresses: 1 .. 4");
        for (int n = 1; n <= 4; n++) {
            QueueDrive x = new QueueDrive(1);
            Check.run(x, Check.FORCE, 0, n, 7);
            check.due("forced", x.count(3), n);
            Check.run(x, Check.WRITE, 0, n, 7);
            check.due("cached", x.count(3), n);
            Check.run(x, Check.DROP, 0, n, 0);
            check.due("stored for want of room", x.count(3), 2 * n);
            Check.run(x, Check.FLUSH, 0, 0, 0);
            check.due("taken away", x.count(3), 3 * n);
            Check.run(x, Check.FLUSH, 0, 0, 0);
            check.due("nothing left to store", x.count(3), 3 * n);
            check.due("units", x.count(2), 3);
        }
    }

    private static void pagesCutOff() {
        check.about("those of UNITS cut off by a power loss counted");
        QueueDrive x = new QueueDrive(2);
        int all = 0;
        for (int pages = 0; pages <= 3; pages++) {
            x.submit(0, Check.FORCE, 0, 4, 7);
            x.powerDuring(0, 0, pages);
            all += pages;
            check.due("after " + pages + " pages: count(3)", x.count(3), all);
            check.due("after " + pages + " pages: count(2)", x.count(2), 0);
        }
        x.submit(0, Check.FORCE, 0, 4, 7);
        x.powerDuring(0, 0, 4);
        check.due("all were written: count(3)", x.count(3), all + 4);
        check.due("all were written: count(2)", x.count(2), 1);
    }

    private static void countsOutlastPowerLoss() {
        check.about("since the start: not since the latest power loss");
        QueueDrive x = differentCounts();
        x.power();
        x.reset();
        int[] counts = {0, 5, 1, 4, 3};
        for (int what = 0; what <= 4; what++) {
            check.due("count(" + what + ")", x.count(what), counts[what]);
        }
        Check.run(x, Check.FORCE, 0, 1, 0);
        check.due("count(1) goes on", x.count(1), 6);
        check.due("count(2) goes on", x.count(2), 2);
        check.due("count(3) goes on", x.count(3), 5);
        check.due("count(4) goes on", x.count(4), 6);
    }

    /** Two units, five commands, one unit stored, four pages, the third command taken. */
    private static QueueDrive differentCounts() {
        QueueDrive x = new QueueDrive(2);
        Check.run(x, Check.FORCE, 0, 4, 1);
        Check.run(x, Check.WRITE, 0, 1, 1);
        Check.run(x, Check.WRITE, 0, 1, 1);
        Drives.pend(x, 0, 2);
        return x;
    }
}
