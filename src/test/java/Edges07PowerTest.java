/** The edges of promise 7: power. */
public final class Edges07PowerTest {
    private static final Check check = new Check();

    public static void main(String[] args) {
        nothingThere();
        pendingOnly();
        completionsOnly();
        unitsOnly();
        unitsThatTakeAway();
        allFull();
        twice();
        check.end();
    }

    private static void nothingThere() {
        check.about("Answers how many UNITS were lost from the cache: a new drive");
        QueueDrive x = new QueueDrive(2);
        String before = Check.state(x);
        check.due("power()", x.power(), 0);
        check.same("the state", Check.state(x), before);
    }

    private static void pendingOnly() {
        check.about("there are no pending commands: 1 .. 4 in one queue, and no UNIT");
        for (int pending = 1; pending <= 4; pending++) {
            for (int queue = 0; queue <= 2; queue++) {
                QueueDrive x = new QueueDrive(2);
                Drives.pend(x, queue, pending);
                check.due("power()", x.power(), 0);
                check.noCommands(x);
                check.due("count(1)", x.count(1), pending);
            }
        }
    }

    private static void completionsOnly() {
        check.about("and no completions: 1 .. 4 in one queue, and no UNIT");
        for (int completions = 1; completions <= 4; completions++) {
            for (int queue = 0; queue <= 2; queue++) {
                QueueDrive x = new QueueDrive(2);
                Drives.complete(x, queue, completions);
                check.due("power()", x.power(), 0);
                check.noCommands(x);
                check.due("none is taken", x.count(4), 0);
            }
        }
    }

    private static void unitsOnly() {
        check.about("the cache is empty; Answers how many UNITS were lost: 0 .. 6 units");
        for (int units = 0; units <= 6; units++) {
            QueueDrive x = new QueueDrive(6);
            Drives.cache(x, units);
            check.due("power()", x.power(), units);
            check.due("count(0)", x.count(0), 0);
            check.due("count(2)", x.count(2), 0);
            check.due("count(3)", x.count(3), 0);
            for (int a = 0; a < 6; a++) {
                check.due("unit(" + a + ", 0)", x.unit(a, 0), QueueDrive.REFUSED);
                check.due("word(" + a + ")", x.word(a), QueueDrive.NONE);
                check.due("flash(" + a + ")", x.flash(a), QueueDrive.NONE);
            }
            check.due("a flush", Check.run(x, Check.FLUSH, 0, 0, 0), 0);
        }
    }

    private static void unitsThatTakeAway() {
        check.about("the cache is empty: what was taken away in it is held again");
        QueueDrive x = new QueueDrive(3);
        Check.run(x, Check.FORCE, 20, 4, 5);
        Check.run(x, Check.DROP, 20, 4, 0);
        Check.run(x, Check.WRITE, 22, 1, 99);
        check.due("power()", x.power(), 2);
        for (int a = 20; a < 24; a++) {
            check.due("word(" + a + ")", x.word(a), a - 15);
            check.due("flash(" + a + ")", x.flash(a), a - 15);
        }
    }

    private static void allFull() {
        check.about("Power loss: all queues and the cache are full");
        QueueDrive x = new QueueDrive(6);
        Check.run(x, Check.FORCE, 4, 4, 50);
        Drives.cache(x, 6);
        Check.run(x, Check.MATCH, 20, 2, 0);
        for (int queue = 0; queue <= 2; queue++) {
            Drives.complete(x, queue, 4);
            Drives.pend(x, queue, 4);
        }
        check.due("power()", x.power(), 6);
        check.noCommands(x);
        int[] counts = {0, 32, 1, 4, 8};
        for (int what = 0; what <= 4; what++) {
            check.due("count(" + what + ")", x.count(what), counts[what]);
        }
        check.due("result()", x.result(), 2);
        for (int a = 0; a < 24; a++) {
            long word = a >= 4 && a < 8 ? 46 + a : QueueDrive.NONE;
            check.due("word(" + a + ")", x.word(a), word);
            check.due("flash(" + a + ")", x.flash(a), word);
        }
    }

    private static void twice() {
        check.about("Answers how many UNITS were lost from the cache: a second power loss");
        QueueDrive x = new QueueDrive(2);
        Drives.cache(x, 2);
        check.due("the first", x.power(), 2);
        check.due("the second", x.power(), 0);
    }
}
