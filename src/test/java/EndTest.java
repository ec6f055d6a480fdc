/** Promise 5: end. */
public final class EndTest {
    public static void main(String[] args) {
        new Run("all happen together", 3, 9)
            .add(1, 0, 10).begin(Run.DONE).move(0, 0, 1, 10).move(0, 1, 2, 4).add(0, 0, 1).amount(10, 0)
            .end(3).amount(1, 0).amount(6, 1).amount(4, 2).changes(3, 0).changes(2, 1).changes(1, 2)
            .count(5, 0).count(5, 1).count(Run.NONE, 2);
        new Run("a group without changes", 1, 4)
            .begin(Run.DONE).end(0).count(1, 0).count(1, 1).count(Run.NONE, 2).recover(0);
        new Run("no group", 1, 4)
            .end(Run.STATE).begin(Run.DONE).end(0).end(Run.STATE).begin(Run.DONE).drop(0).end(Run.STATE)
            .begin(Run.DONE).recover(0).end(Run.STATE).count(1, 1);
        new Run("poor, one after the other", 2, 9)
            .begin(Run.DONE).add(0, 0, -5).add(0, 0, 10).end(Run.POOR).count(Run.NONE, 2).end(Run.STATE)
            .amount(0, 0).changes(0, 0).count(2, 0).count(2, 1)
            .begin(Run.DONE).add(0, 0, 10).add(0, 0, -5).end(2).amount(5, 0).changes(2, 0).recover(2).amount(5, 0);
        new Run("poor by the last one: none has happened", 2, 9)
            .add(1, 0, 5).begin(Run.DONE).move(0, 0, 1, 5).move(0, 0, 1, 1).end(Run.POOR)
            .amount(5, 0).amount(0, 1).changes(1, 0).changes(0, 1).recover(1).amount(5, 0).count(3, 0);
        new Run("down to 0 is not poor", 2, 9)
            .add(1, 0, 5).begin(Run.DONE).move(0, 0, 1, 5).add(0, 1, -5).end(2).amount(0, 0).amount(0, 1);
        new Run("full: the group stays", 1, 4)
            .begin(Run.DONE).add(0, 0, 1).add(0, 0, 1).add(0, 0, 1).add(0, 0, 1).end(Run.FULL).end(Run.FULL)
            .count(4, 2).amount(0, 0).changes(0, 0).count(4, 1).drop(4).recover(0).amount(0, 0);
        new Run("poor before full", 1, 4)
            .fill(3).begin(Run.DONE).add(0, 0, -1).end(Run.POOR).count(Run.NONE, 2);
        new Run("the last block is enough", 1, 4)
            .begin(Run.DONE).add(0, 0, 1).add(0, 0, 1).add(0, 0, 1).end(3).amount(3, 0).count(4, 0);
        new Run("cut: all happened behind recovery", 2, 9)
            .begin(Run.DONE).add(0, 0, 3).move(0, 0, 1, 1).crash(Run.DONE, 1).end(Run.CUT).isDown(true)
            .recover(2).amount(2, 0).amount(1, 1).changes(2, 0).count(3, 0).count(3, 1).count(Run.NONE, 2);
        new Run("the power fails before the end", 2, 9)
            .begin(Run.DONE).add(0, 0, 3).crash(Run.DONE, 0).end(Run.STATE).recover(0).end(Run.STATE)
            .amount(0, 0).count(1, 0);
        new Run("poor and full write nothing, so the power stays", 1, 4)
            .begin(Run.DONE).add(0, 0, -1).crash(Run.DONE, 1).end(Run.POOR).isDown(false)
            .crash(Run.DONE, 9).fill(3).begin(Run.DONE).crash(Run.DONE, 1).end(Run.FULL).isDown(false);
        Run.finish();
    }
}
