import java.util.function.Supplier;

/** A run of calls on a new object, each told with the answer that is due. */
final class Run {
    static final String DONE = "done";
    static final String ARGUMENT = "throws.IllegalArgumentException";
    static final String STATE = "throws.IllegalStateException";
    static final int NONE = ReplayJournal.NONE;
    static final int FULL = ReplayJournal.FULL;
    static final int CUT = ReplayJournal.CUT;
    static final int POOR = ReplayJournal.POOR;
    static final long TRILLION = 1_000_000_000_000L;

    private static int asked = 0;
    private static int wrong = 0;

    private final String name;
    private final ReplayJournal object;

    Run(String name, int accounts, int journal) {
        this.name = name;
        this.object = new ReplayJournal(accounts, journal);
    }

    /** What a call answers, as a text: its value, DONE, or the exception that it throws. */
    static String answerOf(Supplier<Object> call) {
        try {
            return String.valueOf(call.get());
        } catch (RuntimeException e) {
            return "throws." + e.getClass().getSimpleName();
        }
    }

    static String answerOf(Runnable call) {
        return answerOf(() -> {
            call.run();
            return DONE;
        });
    }

    static void compare(String where, String got, Object due) {
        asked++;
        if (!got.equals(String.valueOf(due))) {
            wrong++;
            System.out.println(where + " answered " + got + ", due is " + due);
        }
    }

    /** A test of its own for one sentence of the document: one that asks nothing has failed too. */
    static void sentence(String sentence, Runnable test) {
        int askedBefore = asked;
        int wrongBefore = wrong;
        test.run();
        if (asked == askedBefore) {
            wrong++;
        }
        System.out.println((wrong == wrongBefore ? "  holds   " : "  BROKEN  ") + sentence);
    }

    /** To be called last in main: a test that asked nothing has failed too. */
    static void finish() {
        System.out.println(asked + " answers asked, " + wrong + " wrong");
        if (wrong != 0 || asked == 0) {
            System.exit(1);
        }
    }

    private Run check(String call, String got, Object due) {
        compare(name + ": " + call, got, due);
        return this;
    }

    Run add(Object due, int account, long v) {
        return check("add(" + account + ", " + v + ")", answerOf(() -> object.add(account, v)), due);
    }

    Run move(Object due, int from, int to, long v) {
        return check("move(" + from + ", " + to + ", " + v + ")", answerOf(() -> object.move(from, to, v)), due);
    }

    Run begin(Object due) {
        return check("begin()", answerOf((Runnable) () -> object.begin()), due);
    }

    Run end(Object due) {
        return check("end()", answerOf((Supplier<Object>) () -> object.end()), due);
    }

    Run drop(Object due) {
        return check("drop()", answerOf((Supplier<Object>) () -> object.drop()), due);
    }

    Run snapshot(Object due) {
        return check("snapshot()", answerOf((Supplier<Object>) () -> object.snapshot()), due);
    }

    Run crash(Object due, int n) {
        return check("crash(" + n + ")", answerOf((Runnable) () -> object.crash(n)), due);
    }

    Run recover(Object due) {
        return check("recover()", answerOf((Supplier<Object>) () -> object.recover()), due);
    }

    Run isDown(Object due) {
        return check("isDown()", answerOf((Supplier<Object>) () -> object.isDown()), due);
    }

    Run amount(Object due, int account) {
        return check("amount(" + account + ")", answerOf((Supplier<Object>) () -> object.amount(account)), due);
    }

    Run changes(Object due, int account) {
        return check("changes(" + account + ")", answerOf((Supplier<Object>) () -> object.changes(account)), due);
    }

    Run count(Object due, int what) {
        return check("count(" + what + ")", answerOf((Supplier<Object>) () -> object.count(what)), due);
    }

    /** Adds nothing to account 0 so often: a short way to use blocks of the journal. */
    Run fill(int times) {
        return addOften(times, 1, 0);
    }

    /** Adds 1 to account 0 so often, in a group that has begun. */
    Run fillGroup(int times) {
        return addOften(times, 0, 1);
    }

    private Run addOften(int times, int due, long v) {
        for (int i = 0; i < times; i++) {
            add(due, 0, v);
        }
        return this;
    }

    /** What the accounts from 0 on have. */
    Run amounts(long... due) {
        for (int i = 0; i < due.length; i++) {
            amount(due[i], i);
        }
        return this;
    }

    /** How often the accounts from 0 on were changed. */
    Run changed(int... due) {
        for (int i = 0; i < due.length; i++) {
            changes(due[i], i);
        }
        return this;
    }

    /** Blocks of the journal used, blocks written, changes in the group, snapshots made. */
    Run counts(int used, int written, int group, int snapshots) {
        return count(used, 0).count(written, 1).count(group, 2).count(snapshots, 3);
    }
}
