import java.util.Random;

/** Runs of 512 calls, drawn from fixed seeds, answered by QueueDrive as by Model. */
public final class LongRunsTest {
    private static final int RUNS = 4000;
    private static final int CALLS = 512;
    private static final int[] FAR_OFF = {Integer.MIN_VALUE, Integer.MIN_VALUE + 1, -1000, 1000,
        Integer.MAX_VALUE - 3, Integer.MAX_VALUE};
    private static final Check check = new Check();
    private final Random draw;
    private final QueueDrive x;
    private final Model model;
    private final String name;
    private final int busyQueue;

    private LongRunsTest(int seed) {
        draw = new Random(seed);
        int limit = draw.nextInt(10) - 1;
        x = new QueueDrive(limit);
        model = new Model(limit);
        name = "seed " + seed + ", limit " + limit + ": ";
        // Some runs keep to one queue, so that it is often full or busy.
        busyQueue = seed % 4;
    }

    public static void main(String[] args) {
        for (int seed = 0; seed < RUNS; seed++) {
            LongRunsTest run = new LongRunsTest(seed);
            for (int i = 0; i < CALLS; i++) {
                run.call(i);
            }
        }
        check.end();
    }

    private void call(int i) {
        int kind = draw.nextInt(100);
        if (kind < 28) {
            submit(i);
        } else if (kind < 54) {
            step(i);
        } else if (kind < 70) {
            int queue = queue();
            due(i, "take(" + queue + ")", x.take(queue), model.take(queue));
        } else if (kind < 72) {
            powerLoss(i);
        } else {
            ask(i, kind);
        }
    }

    private void submit(int i) {
        int queue = queue();
        int kind = number(0, 5);
        int n = number(1, 4);
        int a = number(0, 23);
        int v = draw.nextInt(3) == 0 ? draw.nextInt() : number(-3, 3);
        due(i, "submit(" + queue + ", " + kind + ", " + a + ", " + n + ", " + v + ")",
                x.submit(queue, kind, a, n, v), model.submit(queue, kind, a, n, v));
    }

    private void step(int i) {
        int queue = queue();
        int pick = draw.nextInt(3) == 0 ? number(0, 3) : 0;
        due(i, "step(" + queue + ", " + pick + ")", x.step(queue, pick), model.step(queue, pick));
    }

    private void powerLoss(int i) {
        int queue = queue();
        int pick = draw.nextInt(2) == 0 ? number(0, 3) : 0;
        int pages = number(0, 30);
        switch (draw.nextInt(8)) {
            case 0 -> due(i, "reset()", x.reset(), model.reset());
            case 1 -> due(i, "power()", x.power(), model.power());
            default -> due(i, "powerDuring(" + queue + ", " + pick + ", " + pages + ")",
                    x.powerDuring(queue, pick, pages), model.powerDuring(queue, pick, pages));
        }
    }

    private void ask(int i, int kind) {
        int a = number(0, 23);
        int queue = queue();
        int unit = number(0, 5);
        int what = number(0, 5);
        switch (kind % 6) {
            case 0 -> due(i, "word(" + a + ")", x.word(a), model.word(a));
            case 1 -> due(i, "flash(" + a + ")", x.flash(a), model.flash(a));
            case 2 -> due(i, "queue(" + queue + ", " + what + ")", x.queue(queue, what),
                    model.queue(queue, what));
            case 3 -> due(i, "unit(" + unit + ", " + what % 4 + ")", x.unit(unit, what % 4),
                    model.unit(unit, what % 4));
            case 4 -> due(i, "count(" + what + ")", x.count(what), model.count(what));
            default -> due(i, "result()", x.result(), model.result());
        }
    }

    private int queue() {
        return busyQueue < 3 && draw.nextInt(4) != 0 ? busyQueue : number(0, 2);
    }

    /** Mostly in range; now and then just outside of it, or far off. */
    private int number(int least, int most) {
        int chance = draw.nextInt(60);
        if (chance == 0) {
            return least - 1;
        }
        if (chance == 1) {
            return most + 1;
        }
        if (chance == 2) {
            return FAR_OFF[draw.nextInt(FAR_OFF.length)];
        }
        return least + draw.nextInt(most - least + 1);
    }

    private void due(int i, String call, long got, long want) {
        check.due(name + "call " + i + ", " + call, got, want);
    }
}
