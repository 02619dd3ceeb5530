/** Promise 3: step, and what each kind of command does. */
public final class Promise03StepTest {
    private static final Check check = new Check();

    public static void main(String[] args) {
        anyPickIsCarriedOut();
        readSumsWhatIsHeld();
        writeIsCached();
        fullCacheStoresItsOldest();
        forceEmptiesThenStores();
        flushCountsUnits();
        dropTakesAway();
        matchCountsWhatDiffers();
        check.end();
    }

    private static void anyPickIsCarriedOut() {
        QueueDrive x = new QueueDrive(6);
        for (int i = 0; i < 4; i++) {
            x.submit(1, Check.WRITE, i, 1, 10 + i);
        }
        check.due("step(1, 3)", x.step(1, 3), 4);
        check.due("step(1, 1)", x.step(1, 1), 2);
        check.due("queue(1, 0)", x.queue(1, 0), 2);
        check.due("queue(1, 1)", x.queue(1, 1), 2);
        check.due("queue(1, 2)", x.queue(1, 2), 1);
        check.due("queue(1, 3)", x.queue(1, 3), 3);
        check.due("unit(0, 0)", x.unit(0, 0), 3);
        check.due("unit(1, 0)", x.unit(1, 0), 1);
        check.due("step(1, 1)", x.step(1, 1), 3);
        x.submit(1, Check.READ, 0, 4, 0);
        check.due("step(1, 0)", x.step(1, 0), 1);
        check.due("word(0)", x.word(0), 10);
        check.due("take(1)", x.take(1), 4);
        check.due("step(1, 0)", x.step(1, 0), 5);
        int[] order = {2, 3, 1, 5};
        for (int number : order) {
            check.due("take(1)", x.take(1), number);
        }
        check.due("result()", x.result(), 46);
    }

    private static void readSumsWhatIsHeld() {
        QueueDrive x = new QueueDrive(2);
        check.due("nothing", Check.run(x, Check.READ, 20, 4, 7), 0);
        Check.run(x, Check.FORCE, 0, 2, 100);
        Check.run(x, Check.WRITE, 1, 1, 7);
        check.due("flash and cache", Check.run(x, Check.READ, 0, 4, 0), 107);
        check.due("one", Check.run(x, Check.READ, 1, 1, 0), 7);
        for (int a = 8; a < 12; a++) {
            Check.run(x, Check.WRITE, a, 1, Integer.MAX_VALUE);
            Check.run(x, Check.WRITE, a + 4, 1, Integer.MIN_VALUE);
        }
        check.due("a sum above int", Check.run(x, Check.READ, 8, 4, 0), 4L * Integer.MAX_VALUE);
        check.due("a sum below int", Check.run(x, Check.READ, 12, 4, 0), 4L * Integer.MIN_VALUE);
    }

    private static void writeIsCached() {
        QueueDrive x = new QueueDrive(3);
        check.due("result", Check.run(x, Check.WRITE, 5, 3, -1), 0);
        check.due("word(5)", x.word(5), -1);
        check.due("word(6)", x.word(6), 0);
        check.due("word(7)", x.word(7), 1);
        check.due("word(4)", x.word(4), QueueDrive.NONE);
        check.due("word(8)", x.word(8), QueueDrive.NONE);
        check.due("flash(5)", x.flash(5), QueueDrive.NONE);
        Check.run(x, Check.WRITE, 6, 1, 50);
        check.due("the newest is held", x.word(6), 50);
        check.due("the older is held beside it", x.word(7), 1);
        check.due("units of one address stay apart", x.count(0), 2);
        check.due("no page", x.count(3), 0);
    }

    private static void fullCacheStoresItsOldest() {
        QueueDrive x = new QueueDrive(2);
        Check.run(x, Check.WRITE, 0, 3, 1);
        Check.run(x, Check.WRITE, 2, 2, 10);
        Check.run(x, Check.WRITE, 0, 1, 20);
        check.due("count(0)", x.count(0), 2);
        check.due("count(2)", x.count(2), 1);
        check.due("count(3)", x.count(3), 3);
        check.due("flash(0)", x.flash(0), 1);
        check.due("flash(2)", x.flash(2), 3);
        check.due("flash(3)", x.flash(3), QueueDrive.NONE);
        check.due("word(0)", x.word(0), 20);
        check.due("word(2)", x.word(2), 10);
        check.due("unit(0, 0)", x.unit(0, 0), 2);
        check.due("unit(1, 0)", x.unit(1, 0), 0);
    }

    private static void forceEmptiesThenStores() {
        QueueDrive x = new QueueDrive(3);
        Check.run(x, Check.WRITE, 0, 4, 1);
        Check.run(x, Check.DROP, 1, 1, 0);
        check.due("result", Check.run(x, Check.FORCE, 2, 2, 50), 0);
        check.due("count(0)", x.count(0), 0);
        check.due("count(2)", x.count(2), 3);
        check.due("count(3)", x.count(3), 7);
        check.due("flash(0)", x.flash(0), 1);
        check.due("flash(1)", x.flash(1), QueueDrive.NONE);
        check.due("flash(2)", x.flash(2), 50);
        check.due("flash(3)", x.flash(3), 51);
    }

    private static void flushCountsUnits() {
        QueueDrive x = new QueueDrive(4);
        check.due("an empty cache", Check.run(x, Check.FLUSH, 0, 0, 0), 0);
        Check.run(x, Check.WRITE, 0, 4, 1);
        Check.run(x, Check.WRITE, 0, 2, 10);
        Check.run(x, Check.DROP, 3, 1, 0);
        check.due("three units", Check.run(x, Check.FLUSH, 0, 0, 0), 3);
        check.due("count(0)", x.count(0), 0);
        check.due("count(2)", x.count(2), 3);
        check.due("count(3)", x.count(3), 7);
        check.due("the newest is applied last", x.flash(0), 10);
        check.due("flash(2)", x.flash(2), 3);
        check.due("flash(3)", x.flash(3), QueueDrive.NONE);
        check.due("again", Check.run(x, Check.FLUSH, 0, 0, 0), 0);
    }

    private static void dropTakesAway() {
        QueueDrive x = new QueueDrive(2);
        Check.run(x, Check.FORCE, 0, 4, 1);
        check.due("result", Check.run(x, Check.DROP, 1, 2, 99), 0);
        check.due("word(0)", x.word(0), 1);
        check.due("word(1)", x.word(1), QueueDrive.NONE);
        check.due("word(2)", x.word(2), QueueDrive.NONE);
        check.due("word(3)", x.word(3), 4);
        check.due("flash(1)", x.flash(1), 2);
        check.due("read", Check.run(x, Check.READ, 0, 4, 0), 5);
        Check.run(x, Check.WRITE, 2, 1, 70);
        check.due("written again", x.word(2), 70);
        Check.run(x, Check.FLUSH, 0, 0, 0);
        check.due("flash(1) is stored as nothing", x.flash(1), QueueDrive.NONE);
        check.due("flash(2)", x.flash(2), 70);
    }

    private static void matchCountsWhatDiffers() {
        QueueDrive x = new QueueDrive(2);
        check.due("nothing", Check.run(x, Check.MATCH, 0, 4, 0), 4);
        Check.run(x, Check.FORCE, 0, 4, 10);
        check.due("all", Check.run(x, Check.MATCH, 0, 4, 10), 0);
        check.due("none", Check.run(x, Check.MATCH, 0, 4, 11), 4);
        check.due("shifted", Check.run(x, Check.MATCH, 1, 3, 11), 0);
        Check.run(x, Check.DROP, 3, 1, 0);
        Check.run(x, Check.WRITE, 1, 1, 5);
        check.due("cache and flash", Check.run(x, Check.MATCH, 0, 4, 10), 2);
        check.due("nothing is not 0", Check.run(x, Check.MATCH, 3, 1, 0), 1);
        check.due("no unit came of it", x.count(0), 2);
    }
}
