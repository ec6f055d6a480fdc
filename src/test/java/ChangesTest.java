/** Promise 12: changes. */
public final class ChangesTest {
    public static void main(String[] args) {
        new Run("a move changes both", 3, 9)
            .changes(0, 0).add(1, 0, 5).changes(1, 0).move(1, 0, 1, 5).changes(2, 0).changes(1, 1).changes(0, 2)
            .add(1, 2, 0).changes(1, 2).move(1, 0, 1, 0).changes(3, 0).changes(2, 1);
        new Run("only what happened", 2, 9)
            .add(Run.POOR, 0, -1).move(Run.POOR, 0, 1, 1).changes(0, 0).changes(0, 1)
            .begin(Run.DONE).add(0, 0, 1).changes(0, 0).drop(1).changes(0, 0)
            .begin(Run.DONE).add(0, 0, 2).move(0, 0, 1, 1).changes(0, 0).end(2).changes(2, 0).changes(1, 1);
        new Run("kept by a snapshot and counted once by recovery", 2, 4)
            .add(1, 0, 1).add(1, 0, 1).snapshot(2).changes(2, 0).add(1, 0, 1).recover(1).recover(1).changes(3, 0);
        new Run("no such account", 2, 4)
            .changes(Run.ARGUMENT, -1).changes(Run.ARGUMENT, 2)
            .changes(Run.ARGUMENT, Integer.MIN_VALUE).changes(Run.ARGUMENT, Integer.MAX_VALUE);
        new Run("without power", 2, 4)
            .crash(Run.DONE, 0).changes(Run.STATE, 1).changes(Run.ARGUMENT, 2).changes(Run.ARGUMENT, -1)
            .recover(0).changes(0, 1);
        Run.finish();
    }
}
