import java.util.ArrayList;
import java.util.List;
import java.util.function.Consumer;
import java.util.function.Function;

/**
 * "Of several exceptions the one named first is thrown; a call that throws changes nothing": every
 * wrong call in every kind of state; and the same of calls that answer POOR or FULL.
 */
public final class RefusedTest {
    private static final int ACCOUNTS = 3;
    private static final int JOURNAL = 6;
    private static final int LOWEST = Integer.MIN_VALUE;
    private static final int HIGHEST = Integer.MAX_VALUE;

    private record Call(String name, Function<ReplayJournal, Object> call) { }

    private record State(String name, boolean power, boolean group, Consumer<ReplayJournal> past) {
        Twins twins() {
            return new Twins(name, ACCOUNTS, JOURNAL, past);
        }
    }

    private static final List<State> STATES = List.of(
        new State("a new object", true, false, x -> { }),
        new State("behind changes", true, false, RefusedTest::change),
        new State("behind a snapshot", true, false, x -> then(x, RefusedTest::change, y -> y.snapshot(), RefusedTest::change)),
        new State("a full journal", true, false, x -> then(x, RefusedTest::change, RefusedTest::fill)),
        new State("power for two blocks", true, false, x -> then(x, RefusedTest::change, y -> y.crash(2))),
        new State("an empty group", true, true, x -> then(x, RefusedTest::change, y -> y.begin())),
        new State("a group", true, true, x -> then(x, RefusedTest::change, RefusedTest::group)),
        new State("a poor group", true, true, x -> then(x, RefusedTest::group, y -> y.add(2, -1))),
        new State("a group, power for one block", true, true, x -> then(x, RefusedTest::group, y -> y.crash(1))),
        new State("a group in a full journal", true, true, x -> then(x, RefusedTest::group, RefusedTest::fill)),
        new State("power failed at once", false, false, x -> then(x, RefusedTest::change, y -> y.crash(0))),
        new State("power failed by a change", false, false, x -> then(x, y -> y.crash(2), RefusedTest::change)),
        new State("power failed in a group", false, false, x -> then(x, RefusedTest::group, y -> y.crash(0))),
        new State("power failed by an end", false, false, x -> then(x, RefusedTest::group, y -> y.crash(1), y -> y.end())),
        new State("power failed by a snapshot", false, false,
            x -> then(x, RefusedTest::change, y -> y.crash(1), y -> y.snapshot())));

    public static void main(String[] args) {
        Run.sentence("Illegal argument, before illegal state, and it changes nothing", RefusedTest::wrongArguments);
        Run.sentence("Illegal state: the power failed, and it changes nothing", RefusedTest::withoutPower);
        Run.sentence("Illegal state: there is a group, and it changes nothing", RefusedTest::thereIsGroup);
        Run.sentence("Illegal state: there is no group, and it changes nothing", RefusedTest::thereIsNoGroup);
        Run.sentence("POOR alone changes nothing", RefusedTest::poor);
        Run.sentence("FULL changes nothing", RefusedTest::full);
        Run.sentence("questions change nothing", RefusedTest::questions);
        Run.finish();
    }

    @SafeVarargs
    private static void then(ReplayJournal object, Consumer<ReplayJournal>... steps) {
        for (Consumer<ReplayJournal> step : steps) {
            step.accept(object);
        }
    }

    private static void change(ReplayJournal object) {
        object.add(0, 5);
        object.move(0, 1, 2);
    }

    private static void group(ReplayJournal object) {
        object.begin();
        object.add(0, 4);
        object.move(0, 2, 1);
    }

    private static void fill(ReplayJournal object) {
        for (int i = 0; i < JOURNAL; i++) {
            object.add(0, 0);
        }
    }

    private static Call call(String name, Function<ReplayJournal, Object> call) {
        return new Call(name, call);
    }

    private static Call add(int account, long v) {
        return call("add(" + account + ", " + v + ")", x -> x.add(account, v));
    }

    private static Call move(int from, int to, long v) {
        return call("move(" + from + ", " + to + ", " + v + ")", x -> x.move(from, to, v));
    }

    private static Call begin() {
        return call("begin()", x -> {
            x.begin();
            return Run.DONE;
        });
    }

    private static Call crash(int n) {
        return call("crash(" + n + ")", x -> {
            x.crash(n);
            return Run.DONE;
        });
    }

    private static Call amount(int account) {
        return call("amount(" + account + ")", x -> x.amount(account));
    }

    private static Call changes(int account) {
        return call("changes(" + account + ")", x -> x.changes(account));
    }

    private static Call count(int what) {
        return call("count(" + what + ")", x -> x.count(what));
    }

    private static List<Call> callsWithWrongArguments() {
        List<Call> calls = new ArrayList<>();
        for (int account : new int[] {-1, ACCOUNTS, LOWEST, HIGHEST}) {
            calls.addAll(List.of(add(account, 1), move(account, 0, 0), move(0, account, 0), move(account, account, 0),
                amount(account), changes(account)));
        }
        long[] outside = {Run.TRILLION + 1, -Run.TRILLION - 1, Long.MAX_VALUE, Long.MIN_VALUE};
        for (long v : outside) {
            calls.addAll(List.of(add(0, v), move(0, 1, v)));
        }
        calls.addAll(List.of(move(0, 1, -1), move(0, 0, 0), move(0, 0, 1), move(2, 2, 1)));
        for (int n : new int[] {-2, 1001, LOWEST, HIGHEST}) {
            calls.add(crash(n));
        }
        for (int what : new int[] {-1, 4, LOWEST, HIGHEST}) {
            calls.add(count(what));
        }
        return calls;
    }

    private static List<Call> callsThatNeedPower() {
        return List.of(add(0, 1), add(0, -100), add(ACCOUNTS - 1, -Run.TRILLION), move(0, 1, 0), move(1, 0, 100),
            begin(), call("end()", x -> x.end()), call("drop()", x -> x.drop()), call("snapshot()", x -> x.snapshot()),
            crash(Run.NONE), crash(0), crash(1), crash(1000), amount(0), amount(ACCOUNTS - 1),
            changes(0), changes(ACCOUNTS - 1), count(0), count(1), count(2), count(3));
    }

    private static void refuseAll(State state, Object due, List<Call> calls) {
        for (Call call : calls) {
            state.twins().refuse(due, call.name(), call.call());
        }
    }

    private static void wrongArguments() {
        for (State state : STATES) {
            refuseAll(state, Run.ARGUMENT, callsWithWrongArguments());
        }
    }

    private static void withoutPower() {
        for (State state : STATES) {
            if (!state.power()) {
                refuseAll(state, Run.STATE, callsThatNeedPower());
            }
        }
    }

    private static void thereIsGroup() {
        for (State state : STATES) {
            if (state.group()) {
                refuseAll(state, Run.STATE, List.of(begin(), call("snapshot()", x -> x.snapshot())));
            }
        }
    }

    private static void thereIsNoGroup() {
        for (State state : STATES) {
            if (!state.group()) {
                refuseAll(state, Run.STATE, List.of(call("end()", x -> x.end()), call("drop()", x -> x.drop())));
            }
        }
    }

    private static void poor() {
        for (State state : STATES) {
            if (state.power() && !state.group()) {
                refuseAll(state, Run.POOR, List.of(add(0, -100), add(2, -1), move(0, 1, 100), move(2, 0, 1)));
            }
        }
    }

    private static void full() {
        State single = new State("a full journal", true, false, RefusedTest::fill);
        refuseAll(single, Run.FULL, List.of(add(0, 1), add(0, 0), move(0, 1, 0)));
        State group = new State("a group in a full journal", true, true,
            x -> then(x, RefusedTest::group, RefusedTest::fill));
        refuseAll(group, Run.FULL, List.of(add(0, 1), add(0, -100), move(0, 1, 0), move(0, 1, 100),
            call("end()", x -> x.end())));
        State empty = new State("an empty group in a full journal", true, true,
            x -> then(x, RefusedTest::fill, y -> y.begin()));
        refuseAll(empty, Run.FULL, List.of(add(0, 1), move(0, 1, 0), call("end()", x -> x.end())));
    }

    private static void questions() {
        for (State state : STATES) {
            state.twins().refuse(!state.power(), "isDown()", x -> x.isDown());
        }
        State asked = new State("behind changes", true, false, RefusedTest::change);
        refuseAll(asked, 3, List.of(amount(0)));
        refuseAll(asked, 2, List.of(changes(0), count(0), count(1)));
        refuseAll(asked, Run.NONE, List.of(count(2)));
        refuseAll(asked, 0, List.of(count(3), changes(2), amount(2)));
    }
}
