/** Promise 11: amount. */
public final class AmountTest {
    public static void main(String[] args) {
        Run.sentence("An account's amount", AmountTest::ordinary);
        Run.sentence("An account's amount, beyond an int", AmountTest::large);
        Run.sentence("Terms: each with an amount, 0 at first", AmountTest::atFirst);
        Run.sentence("Illegal argument", AmountTest::noAccount);
        Run.sentence("illegal state", AmountTest::noPower);
        Run.sentence("Of several exceptions the one named first is thrown", AmountTest::argumentFirst);
        Run.finish();
    }

    private static void ordinary() {
        new Run("by changes, groups, a snapshot", 3, 9)
            .amount(0, 0).add(1, 0, 5).amount(5, 0).move(1, 0, 2, 2).amounts(3, 0, 2)
            .begin(Run.DONE).add(0, 1, 4).amount(0, 1).end(1).amount(4, 1).snapshot(2).amounts(3, 4, 2);
        new Run("asked in a full journal and in a group", 1, 4)
            .add(1, 0, 5).fill(3).amount(5, 0).begin(Run.DONE).amount(5, 0);
    }

    private static void large() {
        Run large = new Run("60 times the largest", 1, 60);
        for (int i = 1; i <= 60; i++) {
            large.add(1, 0, Run.TRILLION).amount(i * Run.TRILLION, 0);
        }
        large.snapshot(2).add(1, 0, Run.TRILLION).recover(1).amount(61 * Run.TRILLION, 0);
    }

    private static void atFirst() {
        Run run = new Run("all 64", 64, 9);
        for (int account = 0; account < 64; account++) {
            run.amount(0, account);
        }
    }

    private static void noAccount() {
        new Run("the first and the last", 2, 4)
            .amount(Run.ARGUMENT, -1).amount(0, 0).amount(0, 1).amount(Run.ARGUMENT, 2)
            .amount(Run.ARGUMENT, Integer.MIN_VALUE).amount(Run.ARGUMENT, Integer.MAX_VALUE);
        new Run("of 64", 64, 4).amount(0, 63).amount(Run.ARGUMENT, 64);
        new Run("of one", 1, 4).amount(0, 0).amount(Run.ARGUMENT, 1);
    }

    private static void noPower() {
        new Run("until recovery", 2, 4)
            .add(1, 1, 3).crash(Run.DONE, 0).amount(Run.STATE, 0).amount(Run.STATE, 1).recover(1).amounts(0, 3);
    }

    private static void argumentFirst() {
        new Run("without power", 2, 4).crash(Run.DONE, 0).amount(Run.ARGUMENT, 2).amount(Run.ARGUMENT, -1);
    }
}
