import java.util.ArrayList;
import java.util.List;
import java.util.function.ToLongFunction;

/** The edges of "What it is": any order, whole or absent, waiting completions, 512 calls. */
public final class EdgesWhatItIsTest {
    private static final Check check = new Check();

    public static void main(String[] args) {
        anyOrderWithinAQueue();
        anyOrderAmongTheQueues();
        volatileCache();
        wholeOrAbsent();
        completionsWait();
        lastCallOfAll();
        mostCommandsOfAll();
        mostPagesOfAll();
        check.end();
    }

    private static void anyOrderWithinAQueue() {
        check.about("commands that can be carried out in any order: the 24 of a queue");
        for (int queue = 0; queue <= 2; queue++) {
            for (List<Integer> order : orders(List.of(1, 2, 3, 4))) {
                QueueDrive x = new QueueDrive(6);
                for (int number = 1; number <= 4; number++) {
                    x.submit(queue, Check.WRITE, number, number, 0);
                }
                List<Integer> left = new ArrayList<>(List.of(1, 2, 3, 4));
                for (Integer number : order) {
                    int pick = left.indexOf(number);
                    check.due(order + ": step", x.step(queue, pick), number);
                    left.remove(pick);
                }
                for (int i = 0; i < 4; i++) {
                    int number = order.get(i);
                    check.due(order + ": unit " + i, x.unit(i, 0), number);
                    check.due(order + ": its length", x.unit(i, 1), number);
                    check.due(order + ": take", x.take(queue), number);
                }
            }
        }
    }

    private static void anyOrderAmongTheQueues() {
        check.about("three queues of commands that can be carried out in any order: each first");
        for (List<Integer> order : orders(List.of(0, 1, 2))) {
            QueueDrive x = new QueueDrive(6);
            for (int queue = 0; queue <= 2; queue++) {
                x.submit(queue, Check.WRITE, 0, 1, 10 * queue);
            }
            for (int queue : order) {
                check.due(order + ": step", x.step(queue, 0), queue + 1);
                check.due(order + ": word(0)", x.word(0), 10 * queue);
            }
        }
    }

    private static List<List<Integer>> orders(List<Integer> numbers) {
        if (numbers.isEmpty()) {
            return List.of(List.of());
        }
        List<List<Integer>> all = new ArrayList<>();
        for (Integer first : numbers) {
            List<Integer> others = new ArrayList<>(numbers);
            others.remove(first);
            for (List<Integer> rest : orders(others)) {
                List<Integer> order = new ArrayList<>(List.of(first));
                order.addAll(rest);
                all.add(order);
            }
        }
        return all;
    }

    private static void volatileCache() {
        check.about("a volatile cache of writes: each unit is lost unless it was stored");
        for (int units = 1; units <= 6; units++) {
            QueueDrive x = new QueueDrive(3);
            Drives.cache(x, units);
            x.power();
            for (int a = 0; a < units; a++) {
                check.due(units + " units: word(" + a + ")", x.word(a),
                        a < units - 3 ? a : QueueDrive.NONE);
            }
        }
    }

    private static void wholeOrAbsent() {
        check.about("writes that are whole or absent after a power loss: each page of each length");
        for (int n = 1; n <= 4; n++) {
            for (int pages = 0; pages <= n + 1; pages++) {
                QueueDrive forced = new QueueDrive(1);
                Check.run(forced, Check.FORCE, 10, 4, 1);
                forced.submit(0, Check.FORCE, 10, n, 50);
                check.due("pages", forced.powerDuring(0, 0, pages), Math.min(pages, n));
                QueueDrive flushed = new QueueDrive(1);
                Check.run(flushed, Check.FORCE, 10, 4, 1);
                Check.run(flushed, Check.WRITE, 10, n, 50);
                flushed.submit(0, Check.FLUSH, 0, 0, 0);
                check.due("pages", flushed.powerDuring(0, 0, pages), Math.min(pages, n));
                for (int k = 0; k < 4; k++) {
                    int word = k < n && pages >= n ? 50 + k : 1 + k;
                    String after = pages + " pages of " + n + ", flash " + k;
                    check.due("forced: " + after, forced.flash(10 + k), word);
                    check.due("flushed: " + after, flushed.flash(10 + k), word);
                }
            }
        }
    }

    private static void completionsWait() {
        check.about("completions that wait to be taken: whatever is done meanwhile");
        QueueDrive x = new QueueDrive(1);
        x.submit(0, Check.MATCH, 0, 3, 0);
        x.step(0, 0);
        for (int i = 0; i < 60; i++) {
            x.submit(1, i % 5, 0, 4, i);
            x.step(1, 0);
            x.take(1);
        }
        check.due("queue(0, 1)", x.queue(0, 1), 1);
        check.due("take(0)", x.take(0), 1);
        check.due("result()", x.result(), 3);
    }

    private static void lastCallOfAll() {
        check.about("at most 512 calls after it has been made: each call as the 512th");
        last("submit", 131, x -> x.submit(2, Check.READ, 0, 1, 0));
        last("step", 130, x -> x.step(0, 1));
        last("take", 128, x -> x.take(1));
        last("result", 2, QueueDrive::result);
        last("reset", 2, QueueDrive::reset);
        last("power", 1, QueueDrive::power);
        last("powerDuring", 2, x -> x.powerDuring(0, 0, 30));
        last("word", 301, x -> x.word(21));
        last("flash", 126, x -> x.flash(0));
        last("queue", 130, x -> x.queue(0, 3));
        last("unit", 20, x -> x.unit(0, 0));
        last("count", 126, x -> x.count(2));
    }

    private static void last(String name, long due, ToLongFunction<QueueDrive> call) {
        check.due(name, call.applyAsLong(after511Calls()), due);
    }

    /** The last 7 calls leave a match that was taken, a write that was not, and two pending. */
    private static QueueDrive after511Calls() {
        QueueDrive x = new QueueDrive(6);
        for (int i = 1; i <= 126; i++) {
            x.submit(0, Check.FORCE, 0, 1, i);
            x.step(0, 0);
            x.take(0);
            x.result();
        }
        x.submit(1, Check.MATCH, 0, 3, 126);
        x.submit(1, Check.WRITE, 20, 2, 300);
        x.step(1, 0);
        x.step(1, 0);
        x.take(1);
        x.submit(0, Check.FLUSH, 0, 0, 0);
        x.submit(0, Check.READ, 0, 1, 0);
        return x;
    }

    private static void mostCommandsOfAll() {
        check.about("A command has a number, 1, 2, ..: as many as 512 calls allow");
        QueueDrive x = new QueueDrive(6);
        int number = 0;
        for (int call = 0; call < 512; call++) {
            if (call % 13 == 12) {
                check.due("reset()", x.reset(), 12);
            } else {
                number++;
                check.due("submit", x.submit(call % 13 % 3, Check.READ, 0, 1, 0), number);
            }
        }
    }

    private static void mostPagesOfAll() {
        check.about("The drive makes room on the flash by itself; that is always possible");
        QueueDrive x = new QueueDrive(1);
        for (int i = 1; i <= 170; i++) {
            x.submit(0, Check.FORCE, 20, 4, i);
            x.step(0, 0);
            x.take(0);
        }
        check.due("the 511th call, count(3)", x.count(3), 680);
        check.due("the 512th call, flash(23)", x.flash(23), 173);
    }
}
