/** Promise 12: unit. */
public final class Promise12UnitTest {
    private static final Check check = new Check();

    public static void main(String[] args) {
        unitsStandFromTheOldest();
        check.end();
    }

    private static void unitsStandFromTheOldest() {
        QueueDrive x = new QueueDrive(6);
        for (int i = 0; i < 9; i++) {
            Check.run(x, i % 3 == 1 ? Check.DROP : Check.WRITE, 2 * i, 1 + i % 4, 5);
            int oldest = Math.max(0, i - 5);
            for (int unit = 0; unit < 6; unit++) {
                int written = oldest + unit;
                boolean there = written <= i;
                check.due("first", x.unit(unit, 0), there ? 2 * written : QueueDrive.REFUSED);
                check.due("length", x.unit(unit, 1), there ? 1 + written % 4 : QueueDrive.REFUSED);
                check.due("takes away", x.unit(unit, 2),
                        !there ? QueueDrive.REFUSED : written % 3 == 1 ? 1 : 0);
            }
        }
        Check.run(x, Check.FLUSH, 0, 0, 0);
        check.due("after a flush", x.unit(0, 0), QueueDrive.REFUSED);
    }
}
