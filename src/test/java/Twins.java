import java.util.List;
import java.util.function.Consumer;
import java.util.function.Function;
import java.util.function.Supplier;

/**
 * Pairs of objects with the same past, of which only one gets a call that is refused: if it changed
 * nothing, both answer the same to whatever is called behind it.
 */
final class Twins {
    private static final List<Function<ReplayJournal, String>> FUTURES = List.of(
        twin -> told(twin) + recovered(twin),
        twin -> told(twin) + asked(twin::end) + told(twin) + recovered(twin),
        twin -> asked(twin::drop) + told(twin) + asked(twin::snapshot) + told(twin) + recovered(twin),
        twin -> written(twin) + told(twin) + recovered(twin) + written(twin) + recovered(twin),
        twin -> recovered(twin) + asked(twin::snapshot) + recovered(twin));

    private final String name;
    private final int accounts;
    private final int journal;
    private final Consumer<ReplayJournal> past;

    Twins(String name, int accounts, int journal, Consumer<ReplayJournal> past) {
        this.name = name;
        this.accounts = accounts;
        this.journal = journal;
        this.past = past;
    }

    /** Checks what the call answers, and for each future that the call has no part in it. */
    void refuse(Object due, String call, Function<ReplayJournal, Object> refused) {
        for (Function<ReplayJournal, String> future : FUTURES) {
            ReplayJournal one = made();
            ReplayJournal other = made();
            Run.compare(name + ": " + call, Run.answerOf(() -> refused.apply(one)), due);
            Run.compare(name + ", behind " + call, future.apply(one), future.apply(other));
        }
    }

    private ReplayJournal made() {
        ReplayJournal object = new ReplayJournal(accounts, journal);
        past.accept(object);
        return object;
    }

    private static String asked(Supplier<Object> call) {
        return Run.answerOf(call) + " ";
    }

    private static String told(ReplayJournal twin) {
        StringBuilder told = new StringBuilder("[").append(asked(twin::isDown));
        for (int i = 0; i < 4; i++) {
            int what = i;
            told.append(asked(() -> twin.count(what)));
        }
        for (int i = 0; i < 3; i++) {
            int account = i;
            told.append(asked(() -> twin.amount(account))).append(asked(() -> twin.changes(account)));
        }
        return told.append("]").toString();
    }

    private static String recovered(ReplayJournal twin) {
        return asked(twin::recover) + told(twin);
    }

    /** Writes until the journal must be full or the power off: tells how many blocks both allow. */
    private static String written(ReplayJournal twin) {
        StringBuilder told = new StringBuilder();
        for (int i = 0; i < 10; i++) {
            told.append(asked(() -> twin.add(0, 1)));
        }
        return told.toString();
    }
}
