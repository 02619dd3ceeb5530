/** The edges of the document's terms: of units, cache, flash, commands and their kinds. */
public final class EdgesTermsTest {
    private static final Check check = new Check();

    public static void main(String[] args) {
        unitTouchesItsAddressesOnly();
        takingNothingAway();
        cacheHasRoomForOne();
        cacheHasNoRoom();
        emptyingAnEmptyCache();
        emptyingAFullCache();
        oldestIsStoredFirst();
        readOfNothing();
        readOfSomeNothing();
        readBeyondInt();
        writeThatMakesRoom();
        forceWithAnEmptyCache();
        forceWithAFullCache();
        forceOfTheMostPages();
        flushOfAnEmptyCache();
        flushOfAFullCache();
        dropThatMakesRoom();
        matchOfNothing();
        matchOfNoneToAll();
        matchThatWraps();
        numbersOverAllQueues();
        check.end();
    }

    private static void unitTouchesItsAddressesOnly() {
        check.about("at the addresses a .. a + n - 1: and at no other");
        for (int n = 1; n <= 4; n++) {
            for (int a = 1; a + n < 24; a++) {
                QueueDrive x = new QueueDrive(1);
                Check.run(x, Check.FORCE, a, n, 5);
                Check.run(x, Check.DROP, a, n, 0);
                check.due("flash below", x.flash(a - 1), QueueDrive.NONE);
                check.due("flash first", x.flash(a), 5);
                check.due("flash last", x.flash(a + n - 1), 4 + n);
                check.due("flash above", x.flash(a + n), QueueDrive.NONE);
                check.due("word first", x.word(a), QueueDrive.NONE);
                check.due("word last", x.word(a + n - 1), QueueDrive.NONE);
            }
        }
        QueueDrive x = new QueueDrive(2);
        Check.run(x, Check.FORCE, 4, 4, 1);
        Check.run(x, Check.DROP, 5, 2, 0);
        check.due("beside what is taken away, below", x.word(4), 1);
        check.due("beside what is taken away, above", x.word(7), 4);
    }

    private static void takingNothingAway() {
        check.about("or the taking away of n words there: there are none");
        QueueDrive x = new QueueDrive(1);
        check.due("result", Check.run(x, Check.DROP, 20, 4, 5), 0);
        check.due("it is a UNIT", x.count(0), 1);
        check.due("word(20)", x.word(20), QueueDrive.NONE);
        check.due("flush", Check.run(x, Check.FLUSH, 0, 0, 0), 1);
        check.due("count(2)", x.count(2), 1);
        check.due("its pages", x.count(3), 4);
        check.due("flash(20)", x.flash(20), QueueDrive.NONE);
    }

    private static void cacheHasRoomForOne() {
        check.about("if the cache has LIMIT UNITS: it has one less");
        for (int limit = 1; limit <= 6; limit++) {
            for (int kind : new int[] {Check.WRITE, Check.DROP}) {
                QueueDrive x = new QueueDrive(limit);
                Drives.cache(x, limit - 1);
                Check.run(x, kind, 20, 4, 5);
                check.due("count(0)", x.count(0), limit);
                check.due("count(2)", x.count(2), 0);
                check.due("count(3)", x.count(3), 0);
                check.due("the newest", x.unit(limit - 1, 0), 20);
            }
        }
    }

    private static void cacheHasNoRoom() {
        check.about("its oldest one is STORED and leaves the cache; then the UNIT is added");
        for (int limit = 1; limit <= 6; limit++) {
            for (int kind : new int[] {Check.WRITE, Check.DROP}) {
                QueueDrive x = new QueueDrive(limit);
                Drives.cache(x, limit);
                Check.run(x, kind, 0, 4, 50);
                check.due("count(0)", x.count(0), limit);
                check.due("count(2)", x.count(2), 1);
                check.due("count(3)", x.count(3), 1);
                check.due("flash(0)", x.flash(0), 0);
                check.due("flash(1)", x.flash(1), QueueDrive.NONE);
                check.due("the oldest", x.unit(0, 0), limit == 1 ? 0 : 1);
                check.due("the newest", x.unit(limit - 1, 1), 4);
                check.due("word(0)", x.word(0), kind == Check.DROP ? QueueDrive.NONE : 50);
            }
        }
    }

    private static void emptyingAnEmptyCache() {
        check.about("until there is none: there is none from the start");
        QueueDrive x = new QueueDrive(3);
        Check.run(x, Check.FLUSH, 0, 0, 0);
        check.due("count(2)", x.count(2), 0);
        check.due("count(3)", x.count(3), 0);
        check.due("flash(0)", x.flash(0), QueueDrive.NONE);
    }

    private static void emptyingAFullCache() {
        check.about("the oldest UNIT is STORED and leaves the cache, until there is none");
        for (int limit = 1; limit <= 6; limit++) {
            QueueDrive x = new QueueDrive(limit);
            Drives.cache(x, limit);
            Check.run(x, Check.FLUSH, 0, 0, 0);
            check.due("count(0)", x.count(0), 0);
            check.due("count(2)", x.count(2), limit);
            check.due("count(3)", x.count(3), limit);
            for (int a = 0; a < 7; a++) {
                check.due("flash(" + a + ")", x.flash(a), a < limit ? a : QueueDrive.NONE);
                check.due("word(" + a + ")", x.word(a), a < limit ? a : QueueDrive.NONE);
            }
        }
    }

    private static void oldestIsStoredFirst() {
        check.about("the oldest UNIT is STORED: before a newer one at the same addresses");
        for (int units = 2; units <= 6; units++) {
            QueueDrive x = new QueueDrive(6);
            for (int i = 1; i <= units; i++) {
                Check.run(x, Check.WRITE, 0, 4, 100 * i);
            }
            Check.run(x, Check.FLUSH, 0, 0, 0);
            for (int a = 0; a < 4; a++) {
                check.due("flash(" + a + ")", x.flash(a), 100 * units + a);
            }
            check.due("each is stored", x.count(3), 4 * units);
        }
    }

    private static void readOfNothing() {
        check.about("nothing counts as 0: nothing at all");
        QueueDrive x = new QueueDrive(2);
        for (int n = 1; n <= 4; n++) {
            check.due("read at 0", Check.run(x, Check.READ, 0, n, 9), 0);
            check.due("read at the end", Check.run(x, Check.READ, 24 - n, n, 9), 0);
        }
    }

    private static void readOfSomeNothing() {
        check.about("nothing counts as 0: beside words");
        QueueDrive x = new QueueDrive(3);
        Check.run(x, Check.FORCE, 20, 4, -5);
        Check.run(x, Check.DROP, 21, 2, 0);
        check.due("two of four", Check.run(x, Check.READ, 20, 4, 9), -7);
        check.due("one of two", Check.run(x, Check.READ, 22, 2, 9), -2);
        Check.run(x, Check.WRITE, 0, 1, 8);
        check.due("the first address", Check.run(x, Check.READ, 0, 4, 9), 8);
    }

    private static void readBeyondInt() {
        check.about("the sum of the words, as a long: beyond an int");
        QueueDrive x = new QueueDrive(6);
        Check.run(x, Check.WRITE, 0, 1, Integer.MAX_VALUE);
        Check.run(x, Check.WRITE, 1, 1, 1);
        check.due("just above", Check.run(x, Check.READ, 0, 2, 0), 2147483648L);
        Check.run(x, Check.FORCE, 10, 1, Integer.MIN_VALUE);
        Check.run(x, Check.WRITE, 11, 1, -1);
        check.due("just below", Check.run(x, Check.READ, 10, 2, 0), -2147483649L);
    }

    private static void writeThatMakesRoom() {
        check.about("1 WRITE: Result 0: also where a UNIT was STORED for it");
        QueueDrive x = new QueueDrive(1);
        check.due("with room", Check.run(x, Check.WRITE, 0, 4, 3), 0);
        check.due("without", Check.run(x, Check.WRITE, 0, 4, 30), 0);
        check.due("word(3)", x.word(3), 33);
        check.due("flash(3)", x.flash(3), 6);
    }

    private static void forceWithAnEmptyCache() {
        check.about("2 FORCE: the cache is EMPTIED: it is empty");
        QueueDrive x = new QueueDrive(1);
        check.due("result", Check.run(x, Check.FORCE, 20, 4, 3), 0);
        check.due("count(0)", x.count(0), 0);
        check.due("count(2)", x.count(2), 1);
        check.due("count(3)", x.count(3), 4);
        check.due("flash(23)", x.flash(23), 6);
    }

    private static void forceWithAFullCache() {
        check.about("2 FORCE: the cache is EMPTIED, then the UNIT of its n words is STORED: full");
        for (int limit = 1; limit <= 6; limit++) {
            QueueDrive x = new QueueDrive(limit);
            Drives.cache(x, limit);
            check.due("result", Check.run(x, Check.FORCE, 0, 1, 77), 0);
            check.due("count(0)", x.count(0), 0);
            check.due("count(2)", x.count(2), limit + 1);
            check.due("count(3)", x.count(3), limit + 1);
            check.due("its word is the last", x.flash(0), 77);
            check.due("the newest of the cache", x.flash(limit - 1), limit == 1 ? 77 : limit - 1);
        }
    }

    private static void forceOfTheMostPages() {
        check.about("2 FORCE: six UNITS of four addresses, then its own");
        QueueDrive x = new QueueDrive(6);
        for (int a = 0; a < 24; a += 4) {
            Check.run(x, Check.WRITE, a, 4, 100 + a);
        }
        check.due("result", Check.run(x, Check.FORCE, 20, 4, 7), 0);
        check.due("count(2)", x.count(2), 7);
        check.due("count(3)", x.count(3), 28);
        for (int a = 0; a < 24; a++) {
            check.due("flash(" + a + ")", x.flash(a), a < 20 ? 100 + a : a - 13);
        }
    }

    private static void flushOfAnEmptyCache() {
        check.about("3 FLUSH: Result: how many UNITS were in the cache: none");
        QueueDrive x = new QueueDrive(6);
        check.due("a new drive", Check.run(x, Check.FLUSH, 0, 0, 0), 0);
        Drives.cache(x, 3);
        x.power();
        check.due("after a power loss", Check.run(x, Check.FLUSH, 0, 0, 0), 0);
        Check.run(x, Check.FORCE, 0, 4, 0);
        check.due("after a force", Check.run(x, Check.FLUSH, 0, 0, 0), 0);
    }

    private static void flushOfAFullCache() {
        check.about("3 FLUSH: Result: how many UNITS were in the cache: 1 .. LIMIT");
        for (int units = 1; units <= 6; units++) {
            QueueDrive exact = new QueueDrive(units);
            Drives.cache(exact, units);
            check.due("full", Check.run(exact, Check.FLUSH, 0, 0, 0), units);
            QueueDrive roomy = new QueueDrive(6);
            Drives.cache(roomy, units);
            check.due("with room", Check.run(roomy, Check.FLUSH, 0, 0, 0), units);
            QueueDrive over = new QueueDrive(units);
            Drives.cache(over, units + 1);
            check.due("one was stored before", Check.run(over, Check.FLUSH, 0, 0, 0), units);
        }
    }

    private static void dropThatMakesRoom() {
        check.about("4 DROP: the UNIT that takes n words away is CACHED: without room");
        QueueDrive x = new QueueDrive(1);
        Check.run(x, Check.WRITE, 0, 4, 3);
        check.due("result", Check.run(x, Check.DROP, 0, 4, 9), 0);
        check.due("the words were stored for it", x.flash(0), 3);
        check.due("they are held no more", x.word(0), QueueDrive.NONE);
        check.due("another", Check.run(x, Check.DROP, 0, 1, 9), 0);
        check.due("the first was stored for it", x.flash(3), QueueDrive.NONE);
        check.due("count(3)", x.count(3), 8);
    }

    private static void matchOfNothing() {
        check.about("5 MATCH: nothing is no word: whatever its k-th word is");
        int[] odd = {0, -1, 1, (int) QueueDrive.NONE, Integer.MIN_VALUE, Integer.MAX_VALUE};
        for (int v : odd) {
            for (int n = 1; n <= 4; n++) {
                QueueDrive x = new QueueDrive(2);
                check.due("never written", Check.run(x, Check.MATCH, 24 - n, n, v), n);
                Check.run(x, Check.FORCE, 0, 4, v);
                Check.run(x, Check.DROP, 0, n, v);
                check.due("taken away", Check.run(x, Check.MATCH, 0, 4, v), n);
            }
        }
    }

    private static void matchOfNoneToAll() {
        check.about("5 MATCH: how many k there are: 0 .. n");
        for (int n = 1; n <= 4; n++) {
            for (int wrong = 0; wrong <= n; wrong++) {
                QueueDrive x = new QueueDrive(6);
                Check.run(x, Check.FORCE, 10, 4, 50);
                for (int k = 0; k < wrong; k++) {
                    Check.run(x, Check.WRITE, 10 + k, 1, 51 + k);
                }
                check.due(wrong + " of " + n, Check.run(x, Check.MATCH, 10, n, 50), wrong);
            }
        }
    }

    private static void matchThatWraps() {
        check.about("The k-th word of it is v + k, which wraps: for a MATCH");
        QueueDrive x = new QueueDrive(6);
        Check.run(x, Check.WRITE, 0, 2, Integer.MAX_VALUE - 1);
        Check.run(x, Check.WRITE, 2, 2, Integer.MIN_VALUE);
        check.due("all", Check.run(x, Check.MATCH, 0, 4, Integer.MAX_VALUE - 1), 0);
        check.due("none", Check.run(x, Check.MATCH, 0, 4, Integer.MAX_VALUE), 4);
        check.due("from the largest", Check.run(x, Check.MATCH, 1, 3, Integer.MAX_VALUE), 0);
    }

    private static void numbersOverAllQueues() {
        check.about("A command has a number, 1, 2, .. over all queues");
        QueueDrive x = new QueueDrive(1);
        for (int i = 1; i <= 120; i++) {
            int queue = i % 3;
            check.due("submit", x.submit(queue, Check.READ, 0, 1, 0), i);
            check.due("step", x.step(queue, 0), i);
            check.due("take", x.take(queue), i);
        }
    }
}
