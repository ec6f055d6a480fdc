/** Promise 2: add, alone and in a group. */
public final class AddTest {
    public static void main(String[] args) {
        new Run("ordinary additions", 3, 6)
            .add(1, 1, 7).add(1, 1, -7).add(1, 2, 0).add(1, 1, 3)
            .amount(3, 1).changes(3, 1).changes(1, 2).amount(0, 0).count(4, 0).count(4, 1);
        new Run("the edges of v", 2, 9)
            .add(1, 0, Run.TRILLION).add(Run.ARGUMENT, 0, Run.TRILLION + 1)
            .add(Run.ARGUMENT, 0, -Run.TRILLION - 1).add(1, 0, -Run.TRILLION).add(Run.POOR, 0, -Run.TRILLION)
            .add(Run.ARGUMENT, 0, Long.MAX_VALUE).add(Run.ARGUMENT, 0, Long.MIN_VALUE)
            .amount(0, 0).changes(2, 0).count(2, 1);
        new Run("no such account", 2, 4)
            .add(Run.ARGUMENT, -1, 1).add(Run.ARGUMENT, 2, 1)
            .add(Run.ARGUMENT, Integer.MIN_VALUE, 1).add(Run.ARGUMENT, Integer.MAX_VALUE, 1).count(0, 1);
        new Run("poor", 2, 4)
            .add(1, 0, 5).add(Run.POOR, 0, -6).add(Run.POOR, 1, -1).count(1, 0).count(1, 1).changes(1, 0)
            .add(1, 0, -5).amount(0, 0);
        new Run("full, and poor before full", 1, 4)
            .fill(4).add(Run.FULL, 0, 1).add(Run.POOR, 0, -1).amount(0, 0).changes(4, 0).count(4, 1);
        new Run("cut happens behind recovery", 2, 4)
            .crash(Run.DONE, 1).add(Run.CUT, 0, 8).isDown(true).recover(1).amount(8, 0).changes(1, 0).count(1, 0);
        new Run("poor and full write nothing, so the power stays", 1, 4)
            .fill(3).crash(Run.DONE, 1).add(Run.POOR, 0, -1).isDown(false).crash(Run.DONE, 2)
            .add(1, 0, 1).add(Run.FULL, 0, 1).isDown(false);
        new Run("in a group", 2, 4)
            .begin(Run.DONE).add(0, 0, -5).add(0, 0, 9).amount(0, 0).changes(0, 0).count(2, 2).count(2, 0)
            .add(Run.ARGUMENT, 2, 1).add(Run.ARGUMENT, 0, Run.TRILLION + 1).count(2, 2)
            .add(0, 0, 0).add(0, 0, 0).add(Run.FULL, 0, 0).count(4, 2);
        new Run("cut in a group", 2, 4)
            .begin(Run.DONE).crash(Run.DONE, 1).add(Run.CUT, 0, 5).recover(0).amount(0, 0).count(1, 0);
        new Run("without power", 2, 4)
            .crash(Run.DONE, 0).add(Run.STATE, 0, 1).add(Run.ARGUMENT, 2, 1)
            .add(Run.ARGUMENT, 0, Run.TRILLION + 1).recover(0).count(0, 1);
        Run.finish();
    }
}
