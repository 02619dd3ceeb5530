/** Promise 8: powerDuring. */
public final class Promise08PowerDuringTest {
    private static final Check check = new Check();

    public static void main(String[] args) {
        for (int pages = 0; pages <= 30; pages++) {
            forceIsCutOff(pages);
            flushIsCutOff(pages);
            writeIntoAFullCacheIsCutOff(pages);
            fullestForceIsCutOff(pages);
            commandsWithoutPages(pages);
        }
        queuesAreLost();
        check.end();
    }

    /** Units of 2, 3 and 1 pages are cached, and one of 4 pages is forced. */
    private static void forceIsCutOff(int pages) {
        QueueDrive x = threeUnits(3);
        x.submit(1, Check.FORCE, 0, 4, 40);
        check.due("force, " + pages, x.powerDuring(1, 0, pages), Math.min(pages, 10));
        check.due("pages", x.count(3), 4 + Math.min(pages, 10));
        check.due("units", x.count(2), 1 + stored(pages) + (pages >= 10 ? 1 : 0));
        check.due("cache", x.count(0), 0);
        long[] late = {40, 41, 42, 43};
        expectFlash(x, pages >= 10 ? late : threeUnitsAfter(pages));
    }

    private static void flushIsCutOff(int pages) {
        QueueDrive x = threeUnits(5);
        x.submit(1, Check.FLUSH, 0, 0, 0);
        check.due("flush, " + pages, x.powerDuring(1, 0, pages), Math.min(pages, 6));
        check.due("pages", x.count(3), 4 + Math.min(pages, 6));
        check.due("units", x.count(2), 1 + stored(pages));
        expectFlash(x, threeUnitsAfter(pages));
    }

    private static void writeIntoAFullCacheIsCutOff(int pages) {
        QueueDrive x = threeUnits(3);
        x.submit(1, pages % 2 == 0 ? Check.WRITE : Check.DROP, 0, 4, 40);
        check.due("write, " + pages, x.powerDuring(1, 0, pages), Math.min(pages, 2));
        check.due("pages", x.count(3), 4 + Math.min(pages, 2));
        check.due("units", x.count(2), 1 + stored(Math.min(pages, 2)));
        check.due("cache", x.count(0), 0);
        expectFlash(x, threeUnitsAfter(Math.min(pages, 2)));
    }

    /** No command writes more pages than this one. */
    private static void fullestForceIsCutOff(int pages) {
        QueueDrive x = new QueueDrive(6);
        for (int i = 0; i < 6; i++) {
            Check.run(x, Check.WRITE, 4 * i, 4, i);
        }
        x.submit(0, Check.FORCE, 0, 4, 100);
        check.due("fullest, " + pages, x.powerDuring(0, 0, pages), Math.min(pages, 28));
        check.due("units", x.count(2), Math.min(pages, 28) / 4);
        for (int i = 1; i < 6; i++) {
            check.due("flash of unit " + i, x.flash(4 * i + 3),
                    pages >= 4 * i + 4 ? i + 3 : QueueDrive.NONE);
        }
        check.due("flash(0)", x.flash(0), pages >= 28 ? 100 : pages >= 4 ? 0 : QueueDrive.NONE);
    }

    private static void commandsWithoutPages(int pages) {
        int[] kinds = {Check.READ, Check.WRITE, Check.FLUSH, Check.DROP, Check.MATCH};
        for (int kind : kinds) {
            QueueDrive x = new QueueDrive(4);
            Check.run(x, Check.FORCE, 0, 4, 1);
            x.submit(1, kind, 0, 4, 40);
            check.due("kind " + kind, x.powerDuring(1, 0, pages), 0);
            check.due("pages", x.count(3), 4);
            check.due("cache", x.count(0), 0);
            check.due("completions", x.queue(1, 1), 0);
            expectFlash(x, new long[] {1, 2, 3, 4});
        }
    }

    private static void queuesAreLost() {
        QueueDrive x = threeUnits(4);
        x.submit(0, Check.WRITE, 8, 1, 1);
        x.submit(1, Check.READ, 0, 1, 1);
        x.submit(1, Check.FORCE, 8, 2, 7);
        x.submit(1, Check.FORCE, 8, 2, 8);
        x.submit(2, Check.READ, 0, 1, 1);
        x.step(2, 0);
        check.due("the second of queue 1", x.powerDuring(1, 1, 30), 8);
        check.due("it was that one", x.flash(8), 7);
        for (int queue = 0; queue < 3; queue++) {
            check.due("pending", x.queue(queue, 0), 0);
            check.due("completions", x.queue(queue, 1), 0);
            check.due("take", x.take(queue), QueueDrive.REFUSED);
        }
        check.due("latest", x.count(1), 9);
        check.due("taken", x.count(4), 4);
        check.due("result", x.result(), 0);
    }

    private static QueueDrive threeUnits(int limit) {
        QueueDrive x = new QueueDrive(limit);
        Check.run(x, Check.FORCE, 0, 4, 1);
        Check.run(x, Check.WRITE, 0, 2, 10);
        Check.run(x, Check.WRITE, 1, 3, 20);
        Check.run(x, Check.DROP, 0, 1, 30);
        return x;
    }

    private static int stored(int pages) {
        return pages >= 6 ? 3 : pages >= 5 ? 2 : pages >= 2 ? 1 : 0;
    }

    private static long[] threeUnitsAfter(int pages) {
        long[][] flash = {{1, 2, 3, 4}, {10, 11, 3, 4}, {10, 20, 21, 22},
            {QueueDrive.NONE, 20, 21, 22}};
        return flash[stored(pages)];
    }

    private static void expectFlash(QueueDrive x, long[] words) {
        for (int a = 0; a < words.length; a++) {
            check.due("flash " + a, x.flash(a), words[a]);
            check.due("word " + a, x.word(a), words[a]);
        }
    }
}
