import java.util.ArrayList;
import java.util.LinkedHashMap;
import java.util.List;
import java.util.Map;
import java.util.function.ToLongFunction;

/**
 * A refused call changes nothing: in each of some states, each call that is refused there is made
 * on a drive of its own, which then shows all that a drive without the call shows. Questions are
 * asked in the same way, since they change nothing even where they are answered.
 */
public final class RefusedCallsTest {
    private static final int[] QUEUES = {Integer.MIN_VALUE, -1, 0, 1, 2, 3, Integer.MAX_VALUE};
    private static final int[] KINDS = {Integer.MIN_VALUE, -1, 0, 1, 2, 3, 4, 5, 6,
        Integer.MAX_VALUE};
    private static final int[] ADDRESSES = {Integer.MIN_VALUE, -1, 0, 20, 21, 23, 24,
        Integer.MAX_VALUE - 3, Integer.MAX_VALUE};
    private static final int[] LENGTHS = {Integer.MIN_VALUE, -1, 0, 1, 4, 5, Integer.MAX_VALUE};
    private static final int[] PICKS = {Integer.MIN_VALUE, -1, 0, 1, 2, 3, 4, Integer.MAX_VALUE};
    private static final int[] PAGES = {Integer.MIN_VALUE, -1, 0, 3, 30, 31, Integer.MAX_VALUE};
    private static final int[] SMALL = {Integer.MIN_VALUE, -1, 0, 1, 2, 3, 4, 5, 6, 7,
        Integer.MAX_VALUE};

    private static final Check check = new Check();

    /** A call on a drive, and the same call on the model, which says whether it is refused. */
    private record Call(String text, ToLongFunction<QueueDrive> drive,
            ToLongFunction<Model> model) {
        boolean asksOnly() {
            return !text.startsWith("submit") && !text.startsWith("step")
                    && !text.startsWith("take") && !text.startsWith("power");
        }
    }

    private record State(int limit, List<Call> calls) {
        QueueDrive drive() {
            QueueDrive x = new QueueDrive(limit);
            calls.forEach(call -> call.drive.applyAsLong(x));
            return x;
        }

        Model model() {
            Model model = new Model(limit);
            calls.forEach(call -> call.model.applyAsLong(model));
            return model;
        }
    }

    public static void main(String[] args) {
        List<Call> calls = allCalls();
        states().forEach((name, state) -> {
            check.about("a refused call changes nothing, " + name);
            String untouched = Drives.whole(state.drive());
            int refused = 0;
            for (Call call : calls) {
                long due = call.model.applyAsLong(state.model());
                boolean isRefused = due < 0 && !call.asksOnly();
                if (isRefused || call.asksOnly()) {
                    QueueDrive x = state.drive();
                    check.due(call.text, call.drive.applyAsLong(x), due);
                    check.same("all after " + call.text, Drives.whole(x), untouched);
                    refused += isRefused ? 1 : 0;
                }
            }
            check.due("enough calls are refused", refused > 1000 ? 1 : 0, 1);
        });
        check.end();
    }

    private static Map<String, State> states() {
        Map<String, State> states = new LinkedHashMap<>();
        states.put("new", new State(3, List.of()));
        List<Call> full = new ArrayList<>();
        fillPending(full, 0);
        states.put("a full queue", new State(1, full));
        List<Call> busy = new ArrayList<>();
        fillCompletions(busy, 1);
        busy.add(submit(1, Check.FORCE, 4, 3, 70));
        states.put("a busy queue", new State(2, busy));
        List<Call> cached = new ArrayList<>();
        fillCache(cached, 3);
        states.put("a full cache", new State(3, cached));
        List<Call> all = new ArrayList<>();
        fillCache(all, 6);
        for (int queue = 0; queue < 3; queue++) {
            fillCompletions(all, queue);
            fillPending(all, queue);
        }
        states.put("all full", new State(6, all));
        return states;
    }

    private static void fillPending(List<Call> calls, int queue) {
        calls.add(submit(queue, Check.WRITE, 0, 4, queue));
        calls.add(submit(queue, Check.READ, 2, 2, 0));
        calls.add(submit(queue, Check.DROP, 1, 2, 0));
        calls.add(submit(queue, Check.FORCE, 3, 1, -queue));
    }

    private static void fillCompletions(List<Call> calls, int queue) {
        for (int i = 1; i <= 4; i++) {
            calls.add(submit(queue, Check.MATCH, 24 - i, i, 99));
            calls.add(step(queue, 0));
        }
    }

    /** Units of all lengths, above words of the flash; the last completion is taken. */
    private static void fillCache(List<Call> calls, int units) {
        calls.add(submit(2, Check.FORCE, 8, 4, 500));
        calls.add(step(2, 0));
        calls.add(take(2));
        for (int i = 0; i < units; i++) {
            calls.add(submit(2, i % 3 == 1 ? Check.DROP : Check.WRITE, 7 + i, 1 + i % 4, -50 * i));
            calls.add(step(2, 0));
            calls.add(take(2));
        }
    }

    private static List<Call> allCalls() {
        List<Call> calls = new ArrayList<>();
        addSubmits(calls);
        for (int queue : QUEUES) {
            calls.add(take(queue));
            for (int pick : PICKS) {
                calls.add(step(queue, pick));
                for (int pages : PAGES) {
                    calls.add(powerDuring(queue, pick, pages));
                }
            }
        }
        addQuestions(calls);
        return calls;
    }

    private static void addSubmits(List<Call> calls) {
        for (int queue : QUEUES) {
            for (int kind : KINDS) {
                for (int a : ADDRESSES) {
                    for (int n : LENGTHS) {
                        calls.add(submit(queue, kind, a, n, 7));
                    }
                }
            }
        }
    }

    private static void addQuestions(List<Call> calls) {
        calls.add(new Call("result()", QueueDrive::result, Model::result));
        for (int a : ADDRESSES) {
            calls.add(new Call("word(" + a + ")", x -> x.word(a), m -> m.word(a)));
            calls.add(new Call("flash(" + a + ")", x -> x.flash(a), m -> m.flash(a)));
        }
        for (int what : SMALL) {
            calls.add(new Call("count(" + what + ")", x -> x.count(what), m -> m.count(what)));
            for (int which : SMALL) {
                String numbers = "(" + which + ", " + what + ")";
                calls.add(new Call("queue" + numbers, x -> x.queue(which, what),
                        m -> m.queue(which, what)));
                calls.add(new Call("unit" + numbers, x -> x.unit(which, what),
                        m -> m.unit(which, what)));
            }
        }
    }

    private static Call submit(int queue, int kind, int a, int n, int v) {
        return new Call("submit(" + queue + ", " + kind + ", " + a + ", " + n + ", " + v + ")",
                x -> x.submit(queue, kind, a, n, v), m -> m.submit(queue, kind, a, n, v));
    }

    private static Call step(int queue, int pick) {
        return new Call("step(" + queue + ", " + pick + ")", x -> x.step(queue, pick),
                m -> m.step(queue, pick));
    }

    private static Call take(int queue) {
        return new Call("take(" + queue + ")", x -> x.take(queue), m -> m.take(queue));
    }

    private static Call powerDuring(int queue, int pick, int pages) {
        return new Call("powerDuring(" + queue + ", " + pick + ", " + pages + ")",
                x -> x.powerDuring(queue, pick, pages), m -> m.powerDuring(queue, pick, pages));
    }
}
