import java.util.ArrayList;
import java.util.List;
import java.util.TreeMap;

/**
 * The document's words told a second time, without a thought for speed: the cache is applied anew
 * for every question, so that a fault of QueueDrive is not likely to be made here too.
 */
final class Model {
    private record Command(int number, int kind, int a, int n, int v) { }

    private record Completion(int number, long result) { }

    private final int limit;
    private TreeMap<Integer, Integer> stored = new TreeMap<>();
    private final List<Command> cache = new ArrayList<>();
    private final List<List<Command>> pending = new ArrayList<>();
    private final List<List<Completion>> completions = new ArrayList<>();
    private Completion taken = new Completion(0, QueueDrive.NONE);
    private int latest;
    private int unitsStored;
    private int allPages;
    private int pagesOfCommand;
    private int pagesAllowed;
    private boolean dark;

    Model(int limit) {
        this.limit = limit < 1 ? 1 : limit > 6 ? 6 : limit;
        for (int i = 0; i < 3; i++) {
            pending.add(new ArrayList<>());
            completions.add(new ArrayList<>());
        }
    }

    int submit(int queue, int kind, int a, int n, int v) {
        if (outside(queue, 2) || outside(kind, 5)) {
            return QueueDrive.REFUSED;
        }
        if (kind != Check.FLUSH && (outside(n - 1L, 3) || a < 0 || (long) a + n > 24)) {
            return QueueDrive.REFUSED;
        }
        if (pending.get(queue).size() == 4) {
            return QueueDrive.FULL;
        }
        latest++;
        pending.get(queue).add(new Command(latest, kind, a, n, v));
        return latest;
    }

    int step(int queue, int pick) {
        int fault = fault(queue, pick);
        if (fault != 0) {
            return fault;
        }
        Command command = pending.get(queue).remove(pick);
        completions.get(queue).add(new Completion(command.number, carryOut(command, 1000000)));
        return command.number;
    }

    int take(int queue) {
        if (outside(queue, 2) || completions.get(queue).isEmpty()) {
            return QueueDrive.REFUSED;
        }
        taken = completions.get(queue).remove(0);
        return taken.number;
    }

    long result() {
        return taken.result;
    }

    int reset() {
        int sum = 0;
        for (List<Command> each : pending) {
            sum += each.size();
            each.clear();
        }
        completions.forEach(List::clear);
        return sum;
    }

    int power() {
        int lost = cache.size();
        cache.clear();
        reset();
        return lost;
    }

    int powerDuring(int queue, int pick, int pages) {
        if (outside(pages, 30)) {
            return QueueDrive.REFUSED;
        }
        int fault = fault(queue, pick);
        if (fault != 0) {
            return fault;
        }
        carryOut(pending.get(queue).get(pick), pages);
        power();
        return pagesOfCommand;
    }

    long word(int a) {
        return outside(a, 23) ? QueueDrive.NONE : orNone(held().get(a));
    }

    long flash(int a) {
        return outside(a, 23) ? QueueDrive.NONE : orNone(stored.get(a));
    }

    int queue(int queue, int what) {
        if (outside(queue, 2) || outside(what, 5)) {
            return QueueDrive.REFUSED;
        }
        List<Command> asked = pending.get(queue);
        if (what < 2) {
            return what == 0 ? asked.size() : completions.get(queue).size();
        }
        return what - 2 < asked.size() ? asked.get(what - 2).number : QueueDrive.REFUSED;
    }

    int unit(int unit, int what) {
        if (outside(unit, cache.size() - 1) || outside(what, 2)) {
            return QueueDrive.REFUSED;
        }
        Command asked = cache.get(unit);
        return new int[] {asked.a, asked.n, asked.kind == Check.DROP ? 1 : 0}[what];
    }

    int count(int what) {
        int[] counts = {cache.size(), latest, unitsStored, allPages, taken.number};
        return outside(what, 4) ? QueueDrive.REFUSED : counts[what];
    }

    private static boolean outside(long number, long most) {
        return number < 0 || number > most;
    }

    private static long orNone(Integer word) {
        return word == null ? QueueDrive.NONE : word;
    }

    private int fault(int queue, int pick) {
        if (outside(queue, 2) || outside(pick, pending.get(queue).size() - 1)) {
            return QueueDrive.REFUSED;
        }
        return completions.get(queue).size() == 4 ? QueueDrive.BUSY : 0;
    }

    private long carryOut(Command command, int pages) {
        pagesOfCommand = 0;
        pagesAllowed = pages;
        dark = false;
        int units = cache.size();
        if (command.kind == Check.FORCE || command.kind == Check.FLUSH) {
            while (!cache.isEmpty() && !dark) {
                storeOldest();
            }
        }
        if (command.kind == Check.FORCE) {
            store(command);
        }
        if (command.kind == Check.WRITE || command.kind == Check.DROP) {
            if (units == limit) {
                storeOldest();
            }
            cache.add(command);
        }
        return resultOf(command, units);
    }

    private long resultOf(Command command, int units) {
        TreeMap<Integer, Integer> held = held();
        long sum = 0;
        int wrong = 0;
        for (int k = 0; command.kind != Check.FLUSH && k < command.n; k++) {
            Integer word = held.get(command.a + k);
            sum += word == null ? 0 : word;
            wrong += word == null || word != command.v + k ? 1 : 0;
        }
        return command.kind == Check.READ ? sum : command.kind == Check.MATCH ? wrong
                : command.kind == Check.FLUSH ? units : 0;
    }

    private void storeOldest() {
        store(cache.get(0));
        cache.remove(0);
    }

    private void store(Command unit) {
        for (int k = 0; k < unit.n && !dark; k++) {
            if (pagesOfCommand == pagesAllowed) {
                dark = true;
            } else {
                pagesOfCommand++;
                allPages++;
            }
        }
        if (!dark) {
            apply(unit, stored);
            unitsStored++;
        }
    }

    private TreeMap<Integer, Integer> held() {
        TreeMap<Integer, Integer> words = new TreeMap<>(stored);
        for (Command unit : cache) {
            apply(unit, words);
        }
        return words;
    }

    private static void apply(Command unit, TreeMap<Integer, Integer> words) {
        for (int k = 0; k < unit.n; k++) {
            if (unit.kind == Check.DROP) {
                words.remove(unit.a + k);
            } else {
                words.put(unit.a + k, unit.v + k);
            }
        }
    }
}
