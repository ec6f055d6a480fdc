/** Promise 4: begin. */
public final class BeginTest {
    public static void main(String[] args) {
        Run.sentence("A group begins", BeginTest::begins);
        Run.sentence("A group begins, also in a full journal", BeginTest::inFullJournal);
        Run.sentence("Illegal state: there is one", BeginTest::thereIsOne);
        Run.sentence("Illegal state: there is one (not any more)", BeginTest::thereIsNoneAnyMore);
        Run.sentence("Illegal state: the power failed", BeginTest::noPower);
        Run.finish();
    }

    private static void begins() {
        new Run("without a change, and nothing is written", 2, 4)
            .counts(0, 0, Run.NONE, 0).begin(Run.DONE).counts(0, 0, 0, 0).add(0, 0, 1).counts(1, 1, 1, 0);
        new Run("so the power stays", 2, 4).crash(Run.DONE, 1).begin(Run.DONE).isDown(false).add(Run.CUT, 0, 1);
        new Run("changes before it are not in it", 2, 9)
            .add(1, 0, 1).add(1, 0, 1).begin(Run.DONE).count(0, 2).add(0, 0, 1).count(1, 2).drop(1).amounts(2, 0);
    }

    private static void inFullJournal() {
        new Run("no block is left", 1, 4).fill(4).begin(Run.DONE).counts(4, 4, 0, 0);
    }

    private static void thereIsOne() {
        new Run("an empty one", 2, 4).begin(Run.DONE).begin(Run.STATE).counts(0, 0, 0, 0).end(0);
        new Run("one with changes", 2, 4)
            .begin(Run.DONE).add(0, 0, 1).begin(Run.STATE).counts(1, 1, 1, 0).end(1).amounts(1, 0);
        new Run("one that stayed because of FULL", 1, 4)
            .begin(Run.DONE).fillGroup(4).begin(Run.STATE).end(Run.FULL).begin(Run.STATE).counts(4, 4, 4, 0);
    }

    private static void thereIsNoneAnyMore() {
        new Run("behind its end", 2, 4).begin(Run.DONE).end(0).begin(Run.DONE).count(0, 2);
        new Run("behind a poor end", 2, 4).begin(Run.DONE).add(0, 0, -1).end(Run.POOR).begin(Run.DONE).count(0, 2);
        new Run("behind a drop", 2, 4).begin(Run.DONE).add(0, 0, 1).drop(1).begin(Run.DONE).count(0, 2);
        new Run("behind recovery", 2, 4).begin(Run.DONE).add(0, 0, 1).recover(0).begin(Run.DONE).count(0, 2);
        new Run("behind a cut end", 2, 4)
            .begin(Run.DONE).add(0, 0, 1).crash(Run.DONE, 1).end(Run.CUT).recover(1).begin(Run.DONE).count(0, 2);
        new Run("behind a cut change", 2, 4)
            .begin(Run.DONE).crash(Run.DONE, 1).add(Run.CUT, 0, 1).recover(0).begin(Run.DONE).count(0, 2);
    }

    private static void noPower() {
        new Run("without a group", 2, 4).crash(Run.DONE, 0).begin(Run.STATE).recover(0).count(Run.NONE, 2);
        new Run("with a group", 2, 4)
            .begin(Run.DONE).crash(Run.DONE, 0).begin(Run.STATE).recover(0).count(Run.NONE, 2);
    }
}
