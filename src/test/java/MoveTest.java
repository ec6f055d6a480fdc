/** Promise 3: move, alone and in a group. */
public final class MoveTest {
    public static void main(String[] args) {
        new Run("ordinary moves", 3, 9)
            .add(1, 0, 10).move(1, 0, 2, 4).amount(6, 0).amount(4, 2).amount(0, 1)
            .changes(2, 0).changes(1, 2).changes(0, 1).count(2, 0).count(2, 1)
            .move(1, 2, 0, 0).amount(6, 0).changes(3, 0).changes(2, 2)
            .move(1, 2, 1, 4).amount(0, 2).amount(4, 1);
        new Run("the edges of v", 2, 9)
            .add(1, 0, Run.TRILLION).move(Run.ARGUMENT, 0, 1, Run.TRILLION + 1).move(1, 0, 1, Run.TRILLION)
            .move(Run.ARGUMENT, 1, 0, -1).move(Run.ARGUMENT, 1, 0, Long.MIN_VALUE)
            .move(Run.ARGUMENT, 1, 0, Long.MAX_VALUE).amount(Run.TRILLION, 1).count(2, 1);
        new Run("wrong accounts", 2, 4)
            .move(Run.ARGUMENT, 0, 0, 0).move(Run.ARGUMENT, 1, 1, 1)
            .move(Run.ARGUMENT, -1, 0, 0).move(Run.ARGUMENT, 0, -1, 0)
            .move(Run.ARGUMENT, 2, 0, 0).move(Run.ARGUMENT, 0, 2, 0)
            .move(Run.ARGUMENT, Integer.MAX_VALUE, 0, 0).move(Run.ARGUMENT, 0, Integer.MIN_VALUE, 0).count(0, 1);
        new Run("poor", 2, 9)
            .add(1, 0, 5).move(Run.POOR, 0, 1, 6).move(Run.POOR, 1, 0, 1).count(1, 1).changes(1, 0)
            .move(1, 0, 1, 5).move(1, 0, 1, 0).amount(5, 1);
        new Run("full, and poor before full", 2, 4)
            .fill(3).add(1, 0, 1).move(Run.FULL, 0, 1, 1).move(Run.POOR, 0, 1, 2).amount(1, 0).count(4, 1);
        new Run("cut happens behind recovery, as one change", 2, 4)
            .add(1, 0, 5).crash(Run.DONE, 1).move(Run.CUT, 0, 1, 3).isDown(true).recover(2)
            .amount(2, 0).amount(3, 1).changes(2, 0).changes(1, 1);
        new Run("in a group", 2, 4)
            .begin(Run.DONE).move(0, 0, 1, 5).amount(0, 1).changes(0, 1).count(1, 2)
            .move(Run.ARGUMENT, 0, 0, 1).move(Run.ARGUMENT, 0, 1, -1).count(1, 2)
            .move(0, 0, 1, 5).move(0, 0, 1, 5).move(0, 0, 1, 5).move(Run.FULL, 0, 1, 5).count(4, 2);
        new Run("cut in a group", 2, 4)
            .add(1, 0, 5).begin(Run.DONE).crash(Run.DONE, 1).move(Run.CUT, 0, 1, 5).recover(1)
            .amount(5, 0).amount(0, 1).count(2, 0);
        new Run("without power", 2, 4)
            .crash(Run.DONE, 0).move(Run.STATE, 0, 1, 0).move(Run.ARGUMENT, 0, 0, 0)
            .move(Run.ARGUMENT, 0, 1, -1).move(Run.ARGUMENT, 0, 2, 0);
        Run.finish();
    }
}
