/** Promise 9: recover. */
public final class RecoverTest {
    public static void main(String[] args) {
        Run.sentence("Begins anew from the last whole snapshot", RecoverTest::fromSnapshot);
        Run.sentence("Begins anew from the journal", RecoverTest::fromJournal);
        Run.sentence("whether the power failed or not", RecoverTest::powerOrNot);
        Run.sentence("how many changes happened again", RecoverTest::howMany);
        Run.sentence("There is no group then", RecoverTest::noGroup);
        Run.sentence("and what crash() said is forgotten", RecoverTest::crashIsForgotten);
        Run.finish();
    }

    private static void fromSnapshot() {
        new Run("not from one that was cut", 2, 9)
            .add(1, 0, 5).snapshot(2).add(1, 0, 1).crash(Run.DONE, 1).snapshot(Run.CUT).recover(1)
            .amounts(6, 0).changed(2, 0).snapshot(2).recover(0).amounts(6, 0).changed(2, 0);
        new Run("from the last of several", 2, 9)
            .add(1, 0, 5).snapshot(2).add(1, 0, -2).snapshot(2).add(1, 1, 1).snapshot(2).recover(0)
            .amounts(3, 1).changed(2, 1);
        new Run("from none", 2, 9).recover(0).amounts(0, 0).add(1, 0, 5).recover(1).amounts(5, 0);
        new Run("old blocks behind the used ones do not come back", 2, 9)
            .add(1, 0, 5).add(1, 0, 5).snapshot(2).begin(Run.DONE).add(0, 1, 1).end(1).recover(1)
            .amounts(10, 1).changed(2, 1);
    }

    private static void fromJournal() {
        new Run("an empty one", 1, 4).recover(0).counts(0, 0, Run.NONE, 0);
        new Run("a full one", 1, 60).fill(60).recover(60).changed(60).counts(60, 60, Run.NONE, 0).add(Run.FULL, 0, 0);
        new Run("it stays as it is, and nothing is written", 1, 9)
            .add(1, 0, 2).recover(1).recover(1).amounts(2).changed(1).counts(1, 1, Run.NONE, 0)
            .add(1, 0, 2).recover(2).amounts(4).changed(2).counts(2, 2, Run.NONE, 0);
    }

    private static void powerOrNot() {
        new Run("it did not", 2, 9)
            .add(1, 0, 5).move(1, 0, 1, 2).recover(2).isDown(false).amounts(3, 2).changed(2, 1).counts(2, 2, Run.NONE, 0);
        new Run("it did", 2, 9)
            .add(1, 0, 5).move(1, 0, 1, 2).crash(Run.DONE, 0).recover(2).isDown(false)
            .amounts(3, 2).changed(2, 1).counts(2, 2, Run.NONE, 0);
        new Run("it did by a block", 2, 9)
            .add(1, 0, 5).crash(Run.DONE, 1).move(Run.CUT, 0, 1, 2).recover(2).isDown(false)
            .amounts(3, 2).changed(2, 1).counts(2, 2, Run.NONE, 0);
    }

    private static void howMany() {
        new Run("a move is one change", 2, 9).add(1, 0, 5).move(1, 0, 1, 5).recover(2);
        new Run("an end is none, and a group counts by its changes", 2, 9)
            .begin(Run.DONE).add(0, 0, 5).move(0, 0, 1, 1).end(2).recover(2).begin(Run.DONE).end(0).recover(2);
        new Run("groups without an end do not count", 3, 20)
            .add(1, 0, 9).begin(Run.DONE).move(0, 0, 1, 1).move(0, 0, 2, 1).end(2)
            .begin(Run.DONE).add(0, 0, 5).drop(1).begin(Run.DONE).add(0, 1, -5).end(Run.POOR)
            .begin(Run.DONE).end(0).begin(Run.DONE).add(0, 0, 5).crash(Run.DONE, 1).add(Run.CUT, 0, 5)
            .recover(3).amounts(7, 1, 1).count(9, 0);
        new Run("refused changes do not count", 2, 4)
            .add(Run.POOR, 0, -1).add(Run.ARGUMENT, 2, 1).move(Run.ARGUMENT, 0, 0, 0).fill(4).add(Run.FULL, 0, 0)
            .recover(4);
    }

    private static void noGroup() {
        new Run("the power did not fail", 2, 9)
            .begin(Run.DONE).add(0, 0, 5).recover(0).counts(1, 1, Run.NONE, 0).amounts(0, 0)
            .end(Run.STATE).drop(Run.STATE).add(1, 1, 1).amounts(0, 1);
        new Run("the power failed", 2, 9)
            .begin(Run.DONE).add(0, 0, 5).crash(Run.DONE, 0).recover(0).counts(1, 1, Run.NONE, 0).amounts(0, 0)
            .end(Run.STATE).drop(Run.STATE).add(1, 1, 1).amounts(0, 1);
        new Run("an empty one", 2, 9).begin(Run.DONE).recover(0).counts(0, 0, Run.NONE, 0).begin(Run.DONE);
        new Run("a later group does not bring it back", 2, 9)
            .begin(Run.DONE).add(0, 0, 5).recover(0).begin(Run.DONE).add(0, 1, 2).end(1)
            .amounts(0, 2).recover(1).amounts(0, 2).changed(0, 1);
    }

    private static void crashIsForgotten() {
        new Run("before the power failed", 1, 9)
            .crash(Run.DONE, 1).recover(0).add(1, 0, 1).add(1, 0, 1).isDown(false);
        new Run("behind some of the blocks", 1, 9)
            .crash(Run.DONE, 3).fill(2).recover(2).fill(5).isDown(false);
        new Run("behind it failed", 1, 9)
            .crash(Run.DONE, 1).add(Run.CUT, 0, 1).recover(1).add(1, 0, 1).add(1, 0, 1).isDown(false).amounts(3);
        new Run("behind it failed at once", 1, 9).crash(Run.DONE, 0).recover(0).fill(9).isDown(false);
    }
}
