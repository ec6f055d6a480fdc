/** Promise 7: snapshot. */
public final class SnapshotTest {
    public static void main(String[] args) {
        Run.sentence("how many blocks were written", SnapshotTest::written);
        Run.sentence("Terms: a block for each 16 accounts, or part of 16, then one more", SnapshotTest::allSizes);
        Run.sentence("Terms: then no block of the journal is used", SnapshotTest::journalIsEmpty);
        Run.sentence("CUT", SnapshotTest::cutByLast);
        Run.sentence("Terms: If the power fails before the last one was written all is as it was before it",
            SnapshotTest::cutBeforeLast);
        Run.sentence("Illegal state: also if there is a group", SnapshotTest::inGroup);
        Run.sentence("Illegal state: the power failed", SnapshotTest::noPower);
        Run.finish();
    }

    private static void written() {
        new Run("of an empty journal", 1, 4).snapshot(2).counts(0, 2, Run.NONE, 1).recover(0);
        new Run("of a full journal", 1, 4).fill(4).snapshot(2).counts(0, 6, Run.NONE, 1).recover(0);
        new Run("again and again", 64, 4).snapshot(5).snapshot(5).snapshot(5).counts(0, 15, Run.NONE, 3);
    }

    private static void allSizes() {
        int[] last = {16, 32, 48, 64};
        int first = 1;
        for (int i = 0; i < last.length; i++) {
            for (int accounts = first; accounts <= last[i]; accounts++) {
                new Run(accounts + " accounts", accounts, 4).snapshot(i + 2).counts(0, i + 2, Run.NONE, 1);
            }
            first = last[i] + 1;
        }
    }

    private static void journalIsEmpty() {
        new Run("all of it is free again", 2, 4)
            .fill(3).add(1, 0, 5).add(Run.FULL, 0, 1).snapshot(2).counts(0, 6, Run.NONE, 1)
            .amounts(5, 0).changed(4, 0).recover(0).amounts(5, 0).changed(4, 0)
            .fill(4).add(Run.FULL, 0, 1).counts(4, 10, Run.NONE, 1).recover(4).amounts(5, 0).changed(8, 0);
        new Run("also the blocks of a dropped group", 2, 4)
            .begin(Run.DONE).add(0, 0, 9).drop(1).snapshot(2).count(0, 0).add(1, 1, 1).recover(1).amounts(0, 1);
        new Run("also those of a group that recovery found without an end", 2, 4)
            .begin(Run.DONE).add(0, 0, 9).recover(0).count(1, 0).snapshot(2).count(0, 0).amounts(0, 0);
        new Run("every account is kept", 64, 9)
            .add(1, 0, 1).add(1, 15, 2).add(1, 16, 3).add(1, 63, 4).snapshot(5).recover(0)
            .amount(1, 0).amount(2, 15).amount(3, 16).amount(4, 63).changes(1, 0).changes(1, 16).changes(1, 63);
    }

    private static void cutByLast() {
        new Run("the last block was written: the snapshot was made", 40, 9)
            .add(1, 39, 4).crash(Run.DONE, 4).snapshot(Run.CUT).isDown(true).recover(0).isDown(false)
            .amount(4, 39).changes(1, 39).counts(0, 5, Run.NONE, 1);
        new Run("not if one block more can be written", 40, 9)
            .crash(Run.DONE, 5).snapshot(4).isDown(false).counts(0, 4, Run.NONE, 1).add(Run.CUT, 0, 1);
    }

    private static void cutBeforeLast() {
        cutOf(1, 2);
        cutOf(16, 2);
        cutOf(17, 3);
        cutOf(40, 4);
        cutOf(64, 5);
    }

    private static void cutOf(int accounts, int blocks) {
        for (int written = 1; written < blocks; written++) {
            new Run(accounts + " accounts, cut behind " + written + " blocks", accounts, 4)
                .add(1, 0, 1).snapshot(blocks).add(1, 0, 4).fill(3).crash(Run.DONE, written)
                .snapshot(Run.CUT).isDown(true).recover(4).amounts(5).changed(5)
                .counts(4, 5 + blocks + written, Run.NONE, 1).add(Run.FULL, 0, 1)
                .snapshot(blocks).counts(0, 5 + 2 * blocks + written, Run.NONE, 2);
        }
        new Run(accounts + " accounts, the first snapshot is cut", accounts, 4)
            .add(1, 0, 4).crash(Run.DONE, blocks - 1).snapshot(Run.CUT).recover(1).amounts(4).changed(1)
            .counts(1, blocks, Run.NONE, 0);
    }

    private static void inGroup() {
        new Run("an empty one", 2, 4)
            .begin(Run.DONE).snapshot(Run.STATE).counts(0, 0, 0, 0).drop(0).snapshot(2);
        new Run("one with changes", 2, 4)
            .add(1, 0, 1).begin(Run.DONE).add(0, 0, 1).snapshot(Run.STATE).counts(2, 2, 1, 0)
            .end(1).amounts(2, 0).snapshot(2).counts(0, 5, Run.NONE, 1);
        new Run("one that stayed because of FULL", 1, 4)
            .begin(Run.DONE).fillGroup(4).end(Run.FULL).snapshot(Run.STATE).counts(4, 4, 4, 0).drop(4).snapshot(2);
        new Run("not behind a poor end", 1, 4).begin(Run.DONE).add(0, 0, -1).end(Run.POOR).snapshot(2).count(0, 0);
        new Run("not behind recovery", 1, 4).begin(Run.DONE).add(0, 0, 1).recover(0).snapshot(2).count(0, 0);
    }

    private static void noPower() {
        new Run("without a group", 2, 4)
            .add(1, 0, 1).crash(Run.DONE, 0).snapshot(Run.STATE).recover(1).counts(1, 1, Run.NONE, 0);
        new Run("with a group", 2, 4)
            .begin(Run.DONE).crash(Run.DONE, 0).snapshot(Run.STATE).recover(0).counts(0, 0, Run.NONE, 0);
    }
}
