import java.util.Random;
import java.util.function.Supplier;

/**
 * Long runs of calls, the same at each start, answered by the class and by the model: all promises
 * together, and that a call that throws changes nothing.
 */
public final class ModelTest {
    private static final int RUNS = 1500;
    /** Nothing is promised about an object behind so many calls. */
    private static final int CALLS = 512;

    private final String name;
    private final Random random;
    private final int accounts;
    private final ReplayJournal object;
    private final Model model;
    private int calls = 0;

    private ModelTest(int seed) {
        random = new Random(seed);
        int asked = seed % 3 == 0 ? random.nextInt(70) - 2 : 1 + random.nextInt(4);
        int journal = random.nextInt(66) - 2;
        name = "seed " + seed + ", (" + asked + ", " + journal + ")";
        accounts = Math.max(1, Math.min(64, asked));
        object = new ReplayJournal(asked, journal);
        model = new Model(asked, journal);
    }

    public static void main(String[] args) {
        for (int seed = 1; seed <= RUNS; seed++) {
            new ModelTest(seed).run();
        }
        Run.finish();
    }

    private void run() {
        int questions = 1 + 4 + 2 * accounts;
        while (calls < CALLS) {
            if (random.nextInt(questions) == 0 && calls + questions <= CALLS) {
                askAll();
            } else {
                step();
            }
        }
    }

    private void step() {
        int kind = random.nextInt(120);
        if (kind < 30) {
            add(account(), value());
        } else if (kind < 45) {
            move(account(), account(), value());
        } else if (kind < 57) {
            tell("begin()", object::begin, model::begin);
        } else if (kind < 69) {
            ask("end()", object::end, model::end);
        } else if (kind < 73) {
            ask("drop()", object::drop, model::drop);
        } else if (kind < 80) {
            ask("snapshot()", object::snapshot, model::snapshot);
        } else if (kind < 90) {
            crash(random.nextInt(20) == 0 ? random.nextInt(1006) - 3 : random.nextInt(12) - 2);
        } else if (kind < 100) {
            ask("recover()", object::recover, model::recover);
        } else if (kind < 105) {
            ask("isDown()", object::isDown, model::isDown);
        } else if (kind < 110) {
            amount(account());
        } else if (kind < 115) {
            changes(account());
        } else {
            count(random.nextInt(6) - 1);
        }
    }

    private void askAll() {
        ask("isDown()", object::isDown, model::isDown);
        for (int what = 0; what <= 3; what++) {
            count(what);
        }
        for (int account = 0; account < accounts; account++) {
            amount(account);
            changes(account);
        }
    }

    private int account() {
        return random.nextInt(30) == 0 ? random.nextInt(80) - 5 : random.nextInt(accounts);
    }

    private long value() {
        int kind = random.nextInt(20);
        long edge = Run.TRILLION + random.nextInt(3) - 1;
        return kind == 0 ? edge : kind == 1 ? -edge : random.nextInt(16) - 5;
    }

    private void add(int account, long v) {
        ask("add(" + account + ", " + v + ")", () -> object.add(account, v), () -> model.add(account, v));
    }

    private void move(int from, int to, long v) {
        ask("move(" + from + ", " + to + ", " + v + ")", () -> object.move(from, to, v), () -> model.move(from, to, v));
    }

    private void crash(int n) {
        tell("crash(" + n + ")", () -> object.crash(n), () -> model.crash(n));
    }

    private void amount(int account) {
        ask("amount(" + account + ")", () -> object.amount(account), () -> model.amount(account));
    }

    private void changes(int account) {
        ask("changes(" + account + ")", () -> object.changes(account), () -> model.changes(account));
    }

    private void count(int what) {
        ask("count(" + what + ")", () -> object.count(what), () -> model.count(what));
    }

    private void ask(String call, Supplier<Object> own, Supplier<Object> other) {
        calls++;
        Run.compare(name + ", call " + calls + ", " + call, Run.answerOf(own), Run.answerOf(other));
    }

    private void tell(String call, Runnable own, Runnable other) {
        calls++;
        Run.compare(name + ", call " + calls + ", " + call, Run.answerOf(own), Run.answerOf(other));
    }
}
