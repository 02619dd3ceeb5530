/** The edges of promise 6: reset. */
public final class Edges06ResetTest {
    private static final Check check = new Check();

    public static void main(String[] args) {
        nothingThere();
        pendingOnly();
        completionsOnly();
        unitsOnly();
        allFull();
        twice();
        check.end();
    }

    private static void nothingThere() {
        check.about("Answers how many commands were pending: a new drive");
        QueueDrive x = new QueueDrive(2);
        String before = Check.state(x);
        check.due("reset()", x.reset(), 0);
        check.same("the state", Check.state(x), before);
    }

    private static void pendingOnly() {
        check.about("there are no pending commands: 1 .. 4 in each queue, or in one");
        for (int pending = 1; pending <= 4; pending++) {
            for (int queue = 0; queue <= 2; queue++) {
                QueueDrive x = new QueueDrive(2);
                Drives.pend(x, queue, pending);
                check.due("reset()", x.reset(), pending);
                check.noCommands(x);
            }
            QueueDrive x = new QueueDrive(2);
            for (int queue = 0; queue <= 2; queue++) {
                Drives.pend(x, queue, pending);
            }
            check.due("reset()", x.reset(), 3 * pending);
            check.noCommands(x);
            check.due("count(1)", x.count(1), 3 * pending);
        }
    }

    private static void completionsOnly() {
        check.about("and no completions; Answers how many commands were pending: none");
        for (int completions = 1; completions <= 4; completions++) {
            for (int queue = 0; queue <= 2; queue++) {
                QueueDrive x = new QueueDrive(2);
                Drives.complete(x, queue, completions);
                check.due("reset()", x.reset(), 0);
                check.noCommands(x);
                check.due("none is taken", x.count(4), 0);
            }
        }
    }

    private static void unitsOnly() {
        check.about("cache and flash stay: 0 .. 6 units");
        for (int units = 0; units <= 6; units++) {
            QueueDrive x = new QueueDrive(6);
            Check.run(x, Check.FORCE, 4, 4, 50);
            Drives.cache(x, units);
            String before = Check.state(x);
            check.due("reset()", x.reset(), 0);
            check.same("the state", Check.state(x), before);
            check.due("a flush", Check.run(x, Check.FLUSH, 0, 0, 0), units);
        }
    }

    private static void allFull() {
        check.about("cache and flash stay, and the TAKEN completion: all queues are full");
        QueueDrive x = new QueueDrive(6);
        Check.run(x, Check.FORCE, 4, 4, 50);
        Drives.cache(x, 6);
        Check.run(x, Check.MATCH, 20, 2, 0);
        for (int queue = 0; queue <= 2; queue++) {
            Drives.complete(x, queue, 4);
            Drives.pend(x, queue, 4);
        }
        String words = Check.words(x);
        check.due("reset()", x.reset(), 12);
        check.noCommands(x);
        check.same("the words", Check.words(x), words);
        int[] counts = {6, 32, 1, 4, 8};
        for (int what = 0; what <= 4; what++) {
            check.due("count(" + what + ")", x.count(what), counts[what]);
        }
        check.due("result()", x.result(), 2);
        for (int unit = 0; unit < 6; unit++) {
            check.due("unit(" + unit + ", 0)", x.unit(unit, 0), unit);
        }
    }

    private static void twice() {
        check.about("Answers how many commands were pending: a second reset");
        QueueDrive x = new QueueDrive(2);
        Drives.pend(x, 1, 3);
        check.due("the first", x.reset(), 3);
        check.due("the second", x.reset(), 0);
    }
}
