/** Promise 7: snapshot. */
public final class SnapshotTest {
    public static void main(String[] args) {
        blocks(1, 2);
        blocks(15, 2);
        blocks(16, 2);
        blocks(17, 3);
        blocks(32, 3);
        blocks(33, 4);
        blocks(48, 4);
        blocks(49, 5);
        blocks(64, 5);
        new Run("the journal is short again", 2, 4)
            .fill(3).add(1, 0, 5).add(Run.FULL, 0, 1).snapshot(2).count(0, 0).count(6, 1).count(1, 3)
            .amount(5, 0).changes(4, 0).recover(0).amount(5, 0).changes(4, 0)
            .add(1, 0, 2).recover(1).amount(7, 0).changes(5, 0)
            .snapshot(2).snapshot(2).count(3, 3).recover(0).amount(7, 0).changes(5, 0);
        new Run("blocks of a dropped group are free again", 2, 4)
            .begin(Run.DONE).add(0, 0, 9).drop(1).snapshot(2).count(0, 0).add(1, 1, 1).recover(1)
            .amount(0, 0).amount(1, 1);
        new Run("not in a group", 2, 4)
            .begin(Run.DONE).snapshot(Run.STATE).add(0, 0, 1).snapshot(Run.STATE).count(1, 0).count(1, 1)
            .count(0, 3).end(1).snapshot(2).begin(Run.DONE).drop(0).snapshot(2);
        new Run("without power", 2, 4).crash(Run.DONE, 0).snapshot(Run.STATE).recover(0).count(0, 1).count(0, 3);
        cut(1);
        cut(2);
        cut(3);
        new Run("cut with the last block: the snapshot was made", 40, 9)
            .add(1, 39, 4).crash(Run.DONE, 4).snapshot(Run.CUT).isDown(true).recover(0)
            .amount(4, 39).changes(1, 39).count(0, 0).count(5, 1).count(1, 3);
        new Run("one block of power is left", 40, 9)
            .crash(Run.DONE, 5).snapshot(4).isDown(false).add(Run.CUT, 0, 1);
        Run.finish();
    }

    private static void blocks(int accounts, int written) {
        new Run(accounts + " accounts", accounts, 4).snapshot(written).count(written, 1).count(1, 3);
    }

    private static void cut(int written) {
        new Run("cut behind " + written + " of 4 blocks: as before", 40, 9)
            .add(1, 0, 1).snapshot(4).add(1, 0, 4).crash(Run.DONE, written).snapshot(Run.CUT).isDown(true)
            .recover(1).amount(5, 0).changes(2, 0).count(1, 0).count(6 + written, 1).count(1, 3);
    }
}
