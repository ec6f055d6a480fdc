/** Promise 11: amount. */
public final class AmountTest {
    public static void main(String[] args) {
        new Run("ordinary amounts", 3, 9)
            .amount(0, 0).add(1, 0, 5).amount(5, 0).move(1, 0, 2, 2).amount(3, 0).amount(0, 1).amount(2, 2)
            .begin(Run.DONE).add(0, 1, 4).amount(0, 1).end(1).amount(4, 1).snapshot(2).amount(4, 1);
        Run large = new Run("amounts beyond an int", 1, 60);
        for (int i = 1; i <= 60; i++) {
            large.add(1, 0, Run.TRILLION).amount(i * Run.TRILLION, 0);
        }
        large.snapshot(2).add(1, 0, Run.TRILLION).recover(1).amount(61 * Run.TRILLION, 0);
        new Run("no such account", 2, 4)
            .amount(Run.ARGUMENT, -1).amount(Run.ARGUMENT, 2)
            .amount(Run.ARGUMENT, Integer.MIN_VALUE).amount(Run.ARGUMENT, Integer.MAX_VALUE);
        new Run("without power", 2, 4)
            .crash(Run.DONE, 0).amount(Run.STATE, 1).amount(Run.ARGUMENT, 2).amount(Run.ARGUMENT, -1)
            .recover(0).amount(0, 1);
        Run.finish();
    }
}
