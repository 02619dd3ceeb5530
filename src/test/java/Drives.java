/** Brings drives to the states that the edges of the document ask for. */
final class Drives {
    private Drives() { }

    /** Pending commands that change nothing, each with a result of its own. */
    static void pend(QueueDrive x, int queue, int commands) {
        for (int i = 0; i < commands; i++) {
            x.submit(queue, Check.MATCH, 0, 1 + i % 4, 1000000);
        }
    }

    /** Completions of commands that change nothing; the queue has no pending command before. */
    static void complete(QueueDrive x, int queue, int completions) {
        for (int i = 0; i < completions; i++) {
            x.submit(queue, Check.MATCH, 0, 1 + i % 4, 1000000);
            x.step(queue, 0);
        }
    }

    /** Writes of one word i at address i. */
    static void cache(QueueDrive x, int units) {
        for (int i = 0; i < units; i++) {
            Check.run(x, Check.WRITE, i, 1, i);
        }
    }

    /**
     * All that a drive can still show, which uses it up: what the questions answer, then what its
     * completions and its pending commands come to, then how many units its cache takes. At most
     * 350 calls.
     */
    static String whole(QueueDrive x) {
        StringBuilder text = new StringBuilder(Check.state(x));
        for (int queue = 0; queue < 3; queue++) {
            takeAll(x, queue, text);
            for (int i = 0; i < 4 && x.queue(queue, 0) > 0; i++) {
                text.append(" step ").append(x.step(queue, 0));
                takeAll(x, queue, text);
            }
        }
        text.append(Check.state(x));
        for (int i = 0; i < 7; i++) {
            Check.run(x, Check.WRITE, i, 1, i);
            text.append(" units ").append(x.count(0)).append(' ').append(x.count(2));
        }
        return text.toString();
    }

    private static void takeAll(QueueDrive x, int queue, StringBuilder text) {
        for (int i = 0; i < 4 && x.queue(queue, 1) > 0; i++) {
            text.append(" take ").append(x.take(queue)).append(' ').append(x.result());
        }
    }
}
