/** The edges of promise 5: result. */
public final class Edges05ResultTest {
    private static final Check check = new Check();

    public static void main(String[] args) {
        noneTakenYet();
        noneTakenBeforeResetAndPowerLoss();
        refusedTakeLeavesIt();
        resetAndPowerLossLeaveIt();
        largestAndSmallest();
        zeroIsAResult();
        check.end();
    }

    private static void noneTakenYet() {
        check.about("NONE if none was taken yet");
        QueueDrive x = new QueueDrive(2);
        check.due("a new drive", x.result(), QueueDrive.NONE);
        Drives.pend(x, 0, 1);
        check.due("one is pending", x.result(), QueueDrive.NONE);
        x.step(0, 0);
        check.due("one is completed", x.result(), QueueDrive.NONE);
        x.take(1);
        x.take(3);
        check.due("takes were refused", x.result(), QueueDrive.NONE);
        x.take(0);
        check.due("one was taken", x.result(), 1);
    }

    private static void noneTakenBeforeResetAndPowerLoss() {
        check.about("NONE if none was taken yet: after a reset and a power loss");
        QueueDrive x = new QueueDrive(2);
        Drives.complete(x, 0, 1);
        x.reset();
        check.due("after a reset", x.result(), QueueDrive.NONE);
        Drives.complete(x, 0, 1);
        x.power();
        check.due("after a power loss", x.result(), QueueDrive.NONE);
        Drives.pend(x, 0, 1);
        x.powerDuring(0, 0, 30);
        check.due("after a power loss during a command", x.result(), QueueDrive.NONE);
    }

    private static void refusedTakeLeavesIt() {
        check.about("The result of the TAKEN completion: after a refused take");
        QueueDrive x = new QueueDrive(2);
        check.due("match", Check.run(x, Check.MATCH, 0, 3, 0), 3);
        x.take(0);
        check.due("none there", x.result(), 3);
        x.take(-1);
        check.due("no such queue", x.result(), 3);
        Drives.complete(x, 1, 1);
        check.due("one that was not taken", x.result(), 3);
    }

    private static void resetAndPowerLossLeaveIt() {
        check.about("the TAKEN completion stays");
        QueueDrive x = new QueueDrive(2);
        check.due("match", Check.run(x, Check.MATCH, 0, 4, 0), 4);
        Drives.complete(x, 0, 1);
        x.reset();
        check.due("after a reset", x.result(), 4);
        Drives.complete(x, 0, 1);
        x.power();
        check.due("after a power loss", x.result(), 4);
        Drives.pend(x, 0, 1);
        x.powerDuring(0, 0, 0);
        check.due("after a power loss during a command", x.result(), 4);
        check.due("count(4)", x.count(4), 1);
    }

    private static void largestAndSmallest() {
        check.about("All other answers are ints or sums of four ints");
        QueueDrive x = new QueueDrive(6);
        for (int a = 0; a < 4; a++) {
            Check.run(x, Check.WRITE, a, 1, Integer.MAX_VALUE);
            Check.run(x, Check.WRITE, a + 4, 1, Integer.MIN_VALUE);
        }
        for (int n = 1; n <= 4; n++) {
            check.due("largest", Check.run(x, Check.READ, 0, n, 0), 2147483647L * n);
            check.due("smallest", Check.run(x, Check.READ, 4, n, 0), -2147483648L * n);
        }
    }

    private static void zeroIsAResult() {
        check.about("Result 0");
        QueueDrive x = new QueueDrive(1);
        int[] kinds = {Check.WRITE, Check.FORCE, Check.DROP};
        for (int kind : kinds) {
            check.due("a match before", Check.run(x, Check.MATCH, 20, 1, 0), 1);
            check.due("kind " + kind, Check.run(x, kind, 0, 4, 7), 0);
            check.due("a match before", Check.run(x, Check.MATCH, 20, 1, 0), 1);
            check.due("kind " + kind + " again", Check.run(x, kind, 0, 4, 7), 0);
        }
    }
}
