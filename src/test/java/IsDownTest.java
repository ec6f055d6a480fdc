/** Promise 10: isDown. */
public final class IsDownTest {
    public static void main(String[] args) {
        Run.sentence("Whether the power failed", IsDownTest::failed);
        Run.sentence("and recover() was not called since", IsDownTest::notRecovered);
        Run.sentence("asked in all states", IsDownTest::inAllStates);
        Run.finish();
    }

    private static void failed() {
        new Run("at once", 1, 4).isDown(false).crash(Run.DONE, 0).isDown(true);
        new Run("by a change", 1, 4).crash(Run.DONE, 1).isDown(false).add(Run.CUT, 0, 1).isDown(true);
        new Run("by a group's change", 1, 4)
            .begin(Run.DONE).crash(Run.DONE, 1).isDown(false).add(Run.CUT, 0, 1).isDown(true);
        new Run("by an end", 1, 4).begin(Run.DONE).crash(Run.DONE, 1).isDown(false).end(Run.CUT).isDown(true);
        new Run("by a snapshot's first block", 1, 4).crash(Run.DONE, 1).isDown(false).snapshot(Run.CUT).isDown(true);
        new Run("by a snapshot's last block", 1, 4).crash(Run.DONE, 2).isDown(false).snapshot(Run.CUT).isDown(true);
    }

    private static void notRecovered() {
        new Run("refused calls do not help", 2, 4)
            .crash(Run.DONE, 0).add(Run.STATE, 0, 1).isDown(true).move(Run.STATE, 0, 1, 0).isDown(true)
            .begin(Run.STATE).isDown(true).end(Run.STATE).isDown(true).drop(Run.STATE).isDown(true)
            .snapshot(Run.STATE).isDown(true).crash(Run.STATE, Run.NONE).isDown(true).amount(Run.STATE, 0).isDown(true)
            .changes(Run.STATE, 0).isDown(true).count(Run.STATE, 0).isDown(true).add(Run.ARGUMENT, 2, 1).isDown(true)
            .recover(0).isDown(false).recover(0).isDown(false);
        new Run("it may fail again", 1, 4)
            .crash(Run.DONE, 0).recover(0).isDown(false).crash(Run.DONE, 1).add(Run.CUT, 0, 1).isDown(true)
            .recover(1).isDown(false);
    }

    private static void inAllStates() {
        new Run("a new object", 1, 4).isDown(false);
        new Run("in a group", 1, 4).begin(Run.DONE).isDown(false).add(0, 0, 1).isDown(false).end(1).isDown(false);
        new Run("a full journal", 1, 4).fill(4).isDown(false).begin(Run.DONE).isDown(false);
        new Run("without power in a group", 1, 4).begin(Run.DONE).crash(Run.DONE, 0).isDown(true).isDown(true);
        new Run("asking changes nothing", 1, 4)
            .crash(Run.DONE, 1).isDown(false).isDown(false).add(Run.CUT, 0, 1).isDown(true).isDown(true)
            .recover(1).isDown(false).amounts(1).counts(1, 1, Run.NONE, 0);
    }
}
