/** The edges of promise 8: powerDuring. */
public final class Edges08PowerDuringTest {
    private static final Check check = new Check();

    public static void main(String[] args) {
        queueBeyondItsEnds();
        queueAtItsEnds();
        pickBeyondItsEnds();
        pickAtItsEnds();
        noSuchCommand();
        pagesTooSmall();
        pagesAtTheirEnds();
        pagesTooLarge();
        threeCompletions();
        fourCompletions();
        numbersComeBeforeBusy();
        stoppedBeforeTheFirstPage();
        stoppedWithinTheFirstUnit();
        stoppedBetweenTwoUnits();
        stoppedWithinALaterUnit();
        stoppedBeforeItsOwnUnit();
        stoppedAtTheLastPage();
        asManyPagesAsItNeeds();
        morePagesThanItNeeds();
        mostPagesOfAll();
        writeStoppedWithinTheOldest();
        writeNotStopped();
        writeWithRoomInTheCache();
        takingAwayTakesPages();
        commandsWithoutPages();
        noCompletion();
        asByPower();
        pagesAreThoseOfTheCommand();
        check.end();
    }

    private static void queueBeyondItsEnds() {
        check.about("queue and pick as for step: queue below and above");
        QueueDrive x = new QueueDrive(2);
        for (int queue = 0; queue <= 2; queue++) {
            Drives.pend(x, queue, 1);
        }
        String before = Check.state(x);
        for (int queue : new int[] {Integer.MIN_VALUE, -1, 3, Integer.MAX_VALUE}) {
            check.due("queue " + queue, x.powerDuring(queue, 0, 1), QueueDrive.REFUSED);
        }
        check.same("the state", Check.state(x), before);
    }

    private static void queueAtItsEnds() {
        check.about("queue and pick as for step: each queue");
        for (int queue = 0; queue <= 2; queue++) {
            QueueDrive x = new QueueDrive(2);
            for (int each = 0; each <= 2; each++) {
                x.submit(each, Check.FORCE, 4 * each, 1 + each, 7);
            }
            check.due("queue " + queue, x.powerDuring(queue, 0, 30), 1 + queue);
            for (int each = 0; each <= 2; each++) {
                check.due("flash", x.flash(4 * each), each == queue ? 7 : QueueDrive.NONE);
            }
        }
    }

    private static void pickBeyondItsEnds() {
        check.about("queue and pick as for step: pick below and above");
        QueueDrive x = new QueueDrive(2);
        Drives.pend(x, 1, 4);
        String before = Check.state(x);
        for (int pick : new int[] {Integer.MIN_VALUE, -1, 4, 5, Integer.MAX_VALUE}) {
            check.due("pick " + pick, x.powerDuring(1, pick, 1), QueueDrive.REFUSED);
        }
        check.same("the state", Check.state(x), before);
    }

    private static void pickAtItsEnds() {
        check.about("queue and pick as for step: each pick");
        for (int pick = 0; pick <= 3; pick++) {
            QueueDrive x = new QueueDrive(2);
            for (int each = 0; each <= 3; each++) {
                x.submit(1, Check.FORCE, 4 * each, 1 + each, 7);
            }
            check.due("pick " + pick, x.powerDuring(1, pick, 30), 1 + pick);
            for (int each = 0; each <= 3; each++) {
                check.due("flash", x.flash(4 * each), each == pick ? 7 : QueueDrive.NONE);
            }
        }
    }

    private static void noSuchCommand() {
        check.about("refused as there: with 0 .. 3 pending");
        for (int pending = 0; pending <= 3; pending++) {
            QueueDrive x = new QueueDrive(2);
            Drives.cache(x, 2);
            Drives.pend(x, 1, pending);
            Drives.pend(x, 2, 4);
            String before = Check.state(x);
            for (int pick = pending; pick <= 3; pick++) {
                check.due("pick " + pick, x.powerDuring(1, pick, 0), QueueDrive.REFUSED);
            }
            check.same("the state", Check.state(x), before);
        }
    }

    private static void pagesTooSmall() {
        check.about("pages 0 .. 30: below");
        for (int pages : new int[] {-1, -2, Integer.MIN_VALUE}) {
            expectPagesRefused(pages);
        }
    }

    private static void pagesAtTheirEnds() {
        check.about("pages 0 .. 30: at both ends");
        QueueDrive none = twoUnits();
        check.due("pages 0", none.powerDuring(1, 0, 0), 0);
        check.due("pages 0: count(2)", none.count(2), 1);
        QueueDrive most = twoUnits();
        check.due("pages 30", most.powerDuring(1, 0, 30), 9);
        check.due("pages 30: count(2)", most.count(2), 4);
        QueueDrive fewer = twoUnits();
        check.due("pages 29", fewer.powerDuring(1, 0, 29), 9);
    }

    private static void pagesTooLarge() {
        check.about("pages 0 .. 30: above");
        for (int pages : new int[] {31, 32, Integer.MAX_VALUE}) {
            expectPagesRefused(pages);
        }
    }

    private static void expectPagesRefused(int pages) {
        for (int kind = 0; kind <= 5; kind++) {
            QueueDrive x = new QueueDrive(1);
            Drives.cache(x, 1);
            x.submit(2, kind, 0, 4, 9);
            String before = Check.state(x);
            check.due("pages " + pages, x.powerDuring(2, 0, pages), QueueDrive.REFUSED);
            check.same("the state", Check.state(x), before);
        }
    }

    private static void threeCompletions() {
        check.about("BUSY as there: with three completions");
        QueueDrive x = new QueueDrive(2);
        Drives.complete(x, 0, 3);
        Drives.complete(x, 1, 4);
        x.submit(0, Check.FORCE, 0, 2, 5);
        check.due("powerDuring", x.powerDuring(0, 0, 30), 2);
        check.due("flash(1)", x.flash(1), 6);
    }

    private static void fourCompletions() {
        check.about("BUSY as there: with four completions");
        for (int kind = 0; kind <= 5; kind++) {
            QueueDrive x = new QueueDrive(1);
            Drives.cache(x, 1);
            Drives.complete(x, 0, 4);
            x.submit(0, kind, 0, 4, 9);
            String before = Check.state(x);
            check.due("pages 0", x.powerDuring(0, 0, 0), QueueDrive.BUSY);
            check.due("pages 30", x.powerDuring(0, 0, 30), QueueDrive.BUSY);
            check.same("the state", Check.state(x), before);
        }
    }

    private static void numbersComeBeforeBusy() {
        check.about("Every call tests its numbers first: before BUSY");
        QueueDrive x = new QueueDrive(2);
        for (int queue = 0; queue <= 2; queue++) {
            Drives.complete(x, queue, 4);
            Drives.pend(x, queue, 1);
        }
        check.due("pages -1", x.powerDuring(0, 0, -1), QueueDrive.REFUSED);
        check.due("pages 31", x.powerDuring(0, 0, 31), QueueDrive.REFUSED);
        check.due("pick -1", x.powerDuring(0, -1, 1), QueueDrive.REFUSED);
        check.due("pick 4", x.powerDuring(0, 4, 1), QueueDrive.REFUSED);
        check.due("no such one", x.powerDuring(0, 1, 1), QueueDrive.REFUSED);
        check.due("queue -1", x.powerDuring(-1, 0, 1), QueueDrive.REFUSED);
        check.due("queue 3", x.powerDuring(3, 0, 1), QueueDrive.REFUSED);
        check.due("all in range", x.powerDuring(0, 0, 1), QueueDrive.BUSY);
    }

    private static void stoppedBeforeTheFirstPage() {
        check.about("until it is to write a page and so many were written: before the first page");
        expectTwoUnits(0, 0, 0, 1, 2, 3, 4);
    }

    private static void stoppedWithinTheFirstUnit() {
        check.about("before it leaves the flash as it was: within the first unit");
        expectTwoUnits(1, 1, 0, 1, 2, 3, 4);
    }

    private static void stoppedBetweenTwoUnits() {
        check.about("when they are all written it is APPLIED: between two UNITS");
        expectTwoUnits(2, 2, 1, 10, 11, 3, 4);
    }

    private static void stoppedWithinALaterUnit() {
        check.about("before it leaves the flash as it was: within the second unit");
        expectTwoUnits(3, 3, 1, 10, 11, 3, 4);
        expectTwoUnits(4, 4, 1, 10, 11, 3, 4);
    }

    private static void stoppedBeforeItsOwnUnit() {
        check.about("the cache is EMPTIED, then the UNIT of its n words is STORED: between them");
        expectTwoUnits(5, 5, 2, 10, 20, 21, 22);
    }

    private static void stoppedAtTheLastPage() {
        check.about("until it is to write a page and so many were written: the last page");
        expectTwoUnits(8, 8, 2, 10, 20, 21, 22);
    }

    private static void asManyPagesAsItNeeds() {
        check.about("if it is not stopped like that: as many pages as it needs");
        expectTwoUnits(9, 9, 3, 40, 41, 42, 43);
    }

    private static void morePagesThanItNeeds() {
        check.about("if it is not stopped like that: more pages than it needs");
        expectTwoUnits(10, 9, 3, 40, 41, 42, 43);
        expectTwoUnits(30, 9, 3, 40, 41, 42, 43);
    }

    /** A force of 4 words, above units of 2 and 3 words, above 4 words of the flash. */
    private static QueueDrive twoUnits() {
        QueueDrive x = new QueueDrive(2);
        Check.run(x, Check.FORCE, 0, 4, 1);
        Check.run(x, Check.WRITE, 0, 2, 10);
        Check.run(x, Check.WRITE, 1, 3, 20);
        x.submit(1, Check.FORCE, 0, 4, 40);
        return x;
    }

    private static void expectTwoUnits(int pages, int written, int stored, int... flash) {
        QueueDrive x = twoUnits();
        check.due("pages " + pages, x.powerDuring(1, 0, pages), written);
        check.due("count(3)", x.count(3), 4 + written);
        check.due("count(2)", x.count(2), 1 + stored);
        check.due("count(0)", x.count(0), 0);
        for (int a = 0; a < 4; a++) {
            check.due("flash(" + a + ")", x.flash(a), flash[a]);
            check.due("word(" + a + ")", x.word(a), flash[a]);
        }
    }

    private static void mostPagesOfAll() {
        check.about("pages 0 .. 30: no command writes more than 28");
        for (int pages = 0; pages <= 30; pages++) {
            QueueDrive x = new QueueDrive(6);
            for (int i = 0; i < 6; i++) {
                Check.run(x, Check.WRITE, 4 * i, 4, 100 * i);
            }
            x.submit(0, Check.FORCE, 20, 4, 7);
            int written = Math.min(pages, 28);
            check.due("pages " + pages, x.powerDuring(0, 0, pages), written);
            check.due("count(2)", x.count(2), written / 4);
            check.due("count(3)", x.count(3), written);
            check.due("flash(23)", x.flash(23),
                    pages >= 28 ? 10 : pages >= 24 ? 503 : QueueDrive.NONE);
        }
    }

    private static void writeStoppedWithinTheOldest() {
        check.about("its oldest one is STORED and leaves the cache: stopped there");
        for (int kind : new int[] {Check.WRITE, Check.DROP}) {
            for (int pages = 0; pages <= 3; pages++) {
                QueueDrive x = fullCache(kind);
                check.due("kind " + kind, x.powerDuring(0, 0, pages), pages);
                check.due("count(0)", x.count(0), 0);
                check.due("count(2)", x.count(2), 0);
                check.due("count(3)", x.count(3), pages);
                check.due("flash(8)", x.flash(8), QueueDrive.NONE);
                check.due("flash(11)", x.flash(11), QueueDrive.NONE);
            }
        }
    }

    private static void writeNotStopped() {
        check.about("then the UNIT is added as the newest: and lost with the others");
        for (int kind : new int[] {Check.WRITE, Check.DROP}) {
            for (int pages : new int[] {4, 5, 30}) {
                QueueDrive x = fullCache(kind);
                check.due("kind " + kind, x.powerDuring(0, 0, pages), 4);
                check.due("count(0)", x.count(0), 0);
                check.due("count(2)", x.count(2), 1);
                check.due("count(3)", x.count(3), 4);
                check.due("flash(8)", x.flash(8), 30);
                check.due("word(8)", x.word(8), 30);
                check.due("flash(11)", x.flash(11), 33);
                check.due("flash(12)", x.flash(12), QueueDrive.NONE);
                check.due("word(12)", x.word(12), QueueDrive.NONE);
            }
        }
    }

    /** A command at 8 .. 11 that finds no room, since units at 8 .. 11 and at 12 are cached. */
    private static QueueDrive fullCache(int kind) {
        QueueDrive x = new QueueDrive(2);
        Check.run(x, Check.WRITE, 8, 4, 30);
        Check.run(x, Check.WRITE, 12, 1, 40);
        x.submit(0, kind, 8, 4, 50);
        return x;
    }

    private static void writeWithRoomInTheCache() {
        check.about("if the cache has LIMIT UNITS: it has one less, so no page is written");
        for (int kind : new int[] {Check.WRITE, Check.DROP}) {
            QueueDrive x = new QueueDrive(3);
            Check.run(x, Check.WRITE, 8, 4, 30);
            Check.run(x, Check.WRITE, 12, 1, 40);
            x.submit(0, kind, 8, 4, 50);
            check.due("kind " + kind, x.powerDuring(0, 0, 0), 0);
            check.due("count(0)", x.count(0), 0);
            check.due("count(2)", x.count(2), 0);
            check.due("word(8)", x.word(8), QueueDrive.NONE);
        }
    }

    private static void takingAwayTakesPages() {
        check.about("as many pages as it has addresses: the taking away of words");
        for (int pages = 0; pages <= 5; pages++) {
            QueueDrive x = new QueueDrive(2);
            Check.run(x, Check.FORCE, 0, 3, 1);
            Check.run(x, Check.DROP, 0, 4, 0);
            x.submit(0, Check.FLUSH, 0, 0, 0);
            check.due("pages " + pages, x.powerDuring(0, 0, pages), Math.min(pages, 4));
            for (int a = 0; a < 3; a++) {
                check.due("flash(" + a + ")", x.flash(a), pages < 4 ? a + 1 : QueueDrive.NONE);
            }
            check.due("count(2)", x.count(2), pages < 4 ? 1 : 2);
        }
    }

    private static void commandsWithoutPages() {
        check.about("carried out until it is to write a page: it never is");
        int[] kinds = {Check.READ, Check.MATCH, Check.FLUSH};
        for (int kind : kinds) {
            for (int pages : new int[] {0, 1, 30}) {
                QueueDrive x = new QueueDrive(1);
                Check.run(x, Check.FORCE, 0, 4, 1);
                x.submit(0, kind, 0, 4, 9);
                check.due("kind " + kind, x.powerDuring(0, 0, pages), 0);
                check.due("count(3)", x.count(3), 4);
                check.due("count(2)", x.count(2), 1);
                check.due("flash(3)", x.flash(3), 4);
            }
        }
    }

    private static void noCompletion() {
        check.about("as a whole, but for the completion");
        for (int kind = 0; kind <= 5; kind++) {
            QueueDrive x = new QueueDrive(1);
            Check.run(x, Check.MATCH, 20, 2, 0);
            x.submit(2, kind, 0, 4, 9);
            x.powerDuring(2, 0, 30);
            check.noCommands(x);
            check.due("the TAKEN one stays", x.count(4), 1);
            check.due("and its result", x.result(), 2);
        }
    }

    private static void asByPower() {
        check.about("Then as by power: all queues are lost, also where the command was stopped");
        for (int pages : new int[] {0, 1, 30}) {
            QueueDrive x = new QueueDrive(6);
            Drives.cache(x, 6);
            Drives.complete(x, 0, 4);
            Drives.complete(x, 1, 3);
            Drives.complete(x, 2, 4);
            for (int queue = 0; queue <= 2; queue++) {
                Drives.pend(x, queue, 3);
                x.submit(queue, Check.FLUSH, 0, 0, 0);
            }
            check.due("pages " + pages, x.powerDuring(1, 3, pages), Math.min(pages, 6));
            check.noCommands(x);
            check.due("count(0)", x.count(0), 0);
            check.due("count(1)", x.count(1), 29);
            check.due("count(4)", x.count(4), 6);
            check.due("power()", x.power(), 0);
        }
    }

    private static void pagesAreThoseOfTheCommand() {
        check.about("so many were written for it already: not for those before it");
        QueueDrive x = new QueueDrive(2);
        Check.run(x, Check.FORCE, 0, 4, 1);
        x.submit(0, Check.FORCE, 0, 4, 10);
        check.due("the first", x.powerDuring(0, 0, 3), 3);
        x.submit(0, Check.FORCE, 0, 4, 20);
        check.due("the second", x.powerDuring(0, 0, 4), 4);
        check.due("flash(3)", x.flash(3), 23);
        check.due("a step is not stopped", Check.run(x, Check.FORCE, 0, 4, 30), 0);
        check.due("flash(3)", x.flash(3), 33);
        check.due("count(3)", x.count(3), 15);
        check.due("count(2)", x.count(2), 3);
    }
}
