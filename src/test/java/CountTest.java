/** Promise 13: count. */
public final class CountTest {
    public static void main(String[] args) {
        new Run("ordinary counts", 17, 9)
            .add(1, 0, 1).count(1, 0).count(1, 1).count(Run.NONE, 2).count(0, 3)
            .begin(Run.DONE).count(0, 2).add(0, 0, 1).move(0, 0, 1, 1).count(3, 0).count(3, 1).count(2, 2)
            .end(2).count(4, 0).count(4, 1).count(Run.NONE, 2)
            .snapshot(3).count(0, 0).count(7, 1).count(1, 3)
            .recover(0).count(0, 0).count(7, 1).count(1, 3);
        new Run("what is not written does not count", 1, 4)
            .add(Run.POOR, 0, -1).add(Run.ARGUMENT, 1, 1).begin(Run.DONE).count(0, 0).count(0, 1).drop(0)
            .fill(4).add(Run.FULL, 0, 1).begin(Run.DONE).add(Run.FULL, 0, 1).count(0, 2).end(Run.FULL)
            .count(4, 0).count(4, 1);
        new Run("blocks of a cut snapshot are written, but it is not made", 64, 4)
            .crash(Run.DONE, 3).snapshot(Run.CUT).recover(0).count(3, 1).count(0, 3).count(0, 0);
        new Run("no such count", 1, 4)
            .count(Run.ARGUMENT, -1).count(Run.ARGUMENT, 4)
            .count(Run.ARGUMENT, Integer.MIN_VALUE).count(Run.ARGUMENT, Integer.MAX_VALUE);
        new Run("without power", 1, 4)
            .crash(Run.DONE, 0).count(Run.STATE, 0).count(Run.STATE, 1).count(Run.STATE, 2).count(Run.STATE, 3)
            .count(Run.ARGUMENT, -1).count(Run.ARGUMENT, 4);
        Run.finish();
    }
}
