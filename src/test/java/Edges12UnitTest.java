/** The edges of promise 12: unit. */
public final class Edges12UnitTest {
    private static final Check check = new Check();

    public static void main(String[] args) {
        unitTooSmall();
        unitTooLarge();
        noSuchUnit();
        noUnitLeft();
        whatTooSmall();
        whatTooLarge();
        whatAtItsEnds();
        addressAtItsEnds();
        oldestLeaves();
        check.end();
    }

    private static void unitTooSmall() {
        check.about("Unit 0 .. 5: below");
        for (int unit : new int[] {-1, -2, Integer.MIN_VALUE}) {
            expectNoUnit(sixUnits(), unit);
        }
    }

    private static void unitTooLarge() {
        check.about("Unit 0 .. 5: above");
        for (int unit : new int[] {6, 7, Integer.MAX_VALUE}) {
            expectNoUnit(sixUnits(), unit);
        }
    }

    private static void expectNoUnit(QueueDrive x, int unit) {
        String before = Check.state(x);
        for (int what = -1; what <= 3; what++) {
            check.due("unit(" + unit + ", " + what + ")", x.unit(unit, what), QueueDrive.REFUSED);
        }
        check.same("the state", Check.state(x), before);
    }

    private static void noSuchUnit() {
        check.about("No such UNIT: 0 .. 5 units in the cache");
        for (int units = 0; units <= 5; units++) {
            QueueDrive x = new QueueDrive(6);
            Drives.cache(x, units);
            for (int unit = 0; unit <= 5; unit++) {
                boolean there = unit < units;
                check.due("of " + units + ": unit(" + unit + ", 0)", x.unit(unit, 0),
                        there ? unit : QueueDrive.REFUSED);
                check.due("of " + units + ": unit(" + unit + ", 1)", x.unit(unit, 1),
                        there ? 1 : QueueDrive.REFUSED);
                check.due("of " + units + ": unit(" + unit + ", 2)", x.unit(unit, 2),
                        there ? 0 : QueueDrive.REFUSED);
            }
        }
    }

    private static void noUnitLeft() {
        check.about("No such UNIT: those of a cache that was emptied or lost");
        QueueDrive flushed = sixUnits();
        Check.run(flushed, Check.FLUSH, 0, 0, 0);
        QueueDrive forced = sixUnits();
        Check.run(forced, Check.FORCE, 0, 1, 0);
        QueueDrive dark = sixUnits();
        dark.power();
        for (int unit = 0; unit <= 5; unit++) {
            check.due("flushed: unit " + unit, flushed.unit(unit, 0), QueueDrive.REFUSED);
            check.due("forced: unit " + unit, forced.unit(unit, 0), QueueDrive.REFUSED);
            check.due("dark: unit " + unit, dark.unit(unit, 0), QueueDrive.REFUSED);
        }
    }

    private static void whatTooSmall() {
        check.about("another what: REFUSED: below 0");
        for (int what : new int[] {-1, -2, Integer.MIN_VALUE}) {
            expectNoSuchWhat(what);
        }
    }

    private static void whatTooLarge() {
        check.about("another what: REFUSED: above 2");
        for (int what : new int[] {3, 4, Integer.MAX_VALUE}) {
            expectNoSuchWhat(what);
        }
    }

    private static void expectNoSuchWhat(int what) {
        QueueDrive x = sixUnits();
        String before = Check.state(x);
        for (int unit = -1; unit <= 6; unit++) {
            check.due("unit(" + unit + ", " + what + ")", x.unit(unit, what), QueueDrive.REFUSED);
        }
        check.same("the state", Check.state(x), before);
    }

    private static void whatAtItsEnds() {
        check.about("what 0 its first address; 1 its number of addresses; 2: 1 or 0");
        QueueDrive x = sixUnits();
        int[] lengths = {1, 2, 3, 4, 1, 2};
        for (int unit = 0; unit <= 5; unit++) {
            check.due("unit(" + unit + ", 0)", x.unit(unit, 0), 3 * unit);
            check.due("unit(" + unit + ", 1)", x.unit(unit, 1), lengths[unit]);
            check.due("unit(" + unit + ", 2)", x.unit(unit, 2), unit % 2);
        }
    }

    private static void addressAtItsEnds() {
        check.about("what 0 its first address: 0 and 24 - n");
        for (int n = 1; n <= 4; n++) {
            QueueDrive x = new QueueDrive(2);
            Check.run(x, Check.WRITE, 24 - n, n, 0);
            Check.run(x, Check.DROP, 0, n, 0);
            check.due("unit(0, 0)", x.unit(0, 0), 24 - n);
            check.due("unit(0, 1)", x.unit(0, 1), n);
            check.due("unit(0, 2)", x.unit(0, 2), 0);
            check.due("unit(1, 0)", x.unit(1, 0), 0);
            check.due("unit(1, 1)", x.unit(1, 1), n);
            check.due("unit(1, 2)", x.unit(1, 2), 1);
        }
    }

    private static void oldestLeaves() {
        check.about("Unit 0 .. 5 of the cache from the oldest: of a full cache");
        for (int limit = 1; limit <= 6; limit++) {
            QueueDrive x = new QueueDrive(limit);
            for (int i = 0; i < 14; i++) {
                Check.run(x, Check.WRITE, i, 1, 0);
                int units = Math.min(i + 1, limit);
                check.due("the oldest", x.unit(0, 0), i + 1 - units);
                check.due("the newest", x.unit(units - 1, 0), i);
                check.due("beyond it", x.unit(units, 0), QueueDrive.REFUSED);
            }
        }
    }

    /** Units of 1, 2, 3, 4, 1 and 2 addresses; every second one takes words away. */
    private static QueueDrive sixUnits() {
        QueueDrive x = new QueueDrive(6);
        for (int i = 0; i < 6; i++) {
            Check.run(x, i % 2 == 0 ? Check.WRITE : Check.DROP, 3 * i, 1 + i % 4, 7);
        }
        return x;
    }
}
