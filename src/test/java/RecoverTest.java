/** Promise 9: recover. */
public final class RecoverTest {
    public static void main(String[] args) {
        new Run("the power did not fail", 2, 9)
            .recover(0).add(1, 0, 5).move(1, 0, 1, 2).recover(2).recover(2)
            .amount(3, 0).amount(2, 1).changes(2, 0).changes(1, 1).count(2, 0).count(2, 1);
        new Run("the power failed", 2, 9)
            .add(1, 0, 5).crash(Run.DONE, 0).recover(1).isDown(false).amount(5, 0).changes(1, 0);
        new Run("from the last whole snapshot", 2, 9)
            .add(1, 0, 5).snapshot(2).add(1, 0, 1).crash(Run.DONE, 1).snapshot(Run.CUT).recover(1)
            .amount(6, 0).changes(2, 0).snapshot(2).recover(0).amount(6, 0).changes(2, 0);
        new Run("there is no group then", 2, 9)
            .begin(Run.DONE).add(0, 0, 5).recover(0).count(Run.NONE, 2).count(1, 0).amount(0, 0)
            .begin(Run.DONE).add(0, 1, 2).end(1).recover(1).amount(0, 0).amount(2, 1);
        new Run("what crash said is forgotten", 1, 9)
            .crash(Run.DONE, 1).recover(0).add(1, 0, 1).add(1, 0, 1).isDown(false)
            .crash(Run.DONE, 1).add(Run.CUT, 0, 1).recover(3).add(1, 0, 1).isDown(false).amount(4, 0);
        new Run("whole groups count by their changes, others not at all", 3, 20)
            .add(1, 0, 9).begin(Run.DONE).move(0, 0, 1, 1).move(0, 0, 2, 1).end(2)
            .begin(Run.DONE).add(0, 0, 5).drop(1).begin(Run.DONE).add(0, 1, -5).end(Run.POOR)
            .begin(Run.DONE).end(0).begin(Run.DONE).add(0, 0, 5).crash(Run.DONE, 1).add(Run.CUT, 0, 5)
            .recover(3).amount(7, 0).amount(1, 1).amount(1, 2).count(9, 0);
        new Run("old blocks behind the used ones do not come back", 2, 9)
            .add(1, 0, 5).add(1, 0, 5).snapshot(2).begin(Run.DONE).add(0, 1, 1).end(1).recover(1)
            .amount(10, 0).amount(1, 1).changes(2, 0);
        Run.finish();
    }
}
