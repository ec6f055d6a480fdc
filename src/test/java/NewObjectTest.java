/** Promise 1: the constructor and its bounds. */
public final class NewObjectTest {
    private static final int LOWEST = Integer.MIN_VALUE;
    private static final int HIGHEST = Integer.MAX_VALUE;

    public static void main(String[] args) {
        Run.sentence("A new object", NewObjectTest::isEmpty);
        Run.sentence("So many accounts", () -> accounts(1, 1, 2, 2, 17, 17, 63, 63, 64, 64));
        Run.sentence("accounts: below 1 counts as 1", () -> accounts(1, 1, 0, 1, -1, 1, LOWEST, 1));
        Run.sentence("accounts: above 64 as 64", () -> accounts(64, 64, 65, 64, 66, 64, HIGHEST, 64));
        Run.sentence("a journal of so many blocks", () -> journals(4, 4, 5, 5, 33, 33, 59, 59, 60, 60));
        Run.sentence("journal: below 4 counts as 4", () -> journals(4, 4, 3, 4, 0, 4, -1, 4, LOWEST, 4));
        Run.sentence("journal: above 60 as 60", () -> journals(60, 60, 61, 60, 62, 60, HIGHEST, 60));
        Run.sentence("both out of their bounds at once", NewObjectTest::both);
        Run.finish();
    }

    private static void isEmpty() {
        new Run("a new object", 2, 4).isDown(false).amounts(0, 0).changed(0, 0).counts(0, 0, Run.NONE, 0)
            .recover(0).isDown(false).amounts(0, 0).changed(0, 0).counts(0, 0, Run.NONE, 0);
    }

    private static void accounts(int... askedAndMade) {
        for (int i = 0; i < askedAndMade.length; i += 2) {
            accounts(askedAndMade[i], askedAndMade[i + 1]);
        }
    }

    private static void accounts(int asked, int made) {
        new Run(asked + " accounts", asked, 9)
            .amount(0, made - 1).changes(0, made - 1).add(1, made - 1, 5).amount(5, made - 1).changes(1, made - 1)
            .amount(Run.ARGUMENT, made).changes(Run.ARGUMENT, made).add(Run.ARGUMENT, made, 5)
            .amount(Run.ARGUMENT, -1).changes(Run.ARGUMENT, -1).add(Run.ARGUMENT, -1, 5)
            .snapshot((made + 15) / 16 + 1).recover(0).amount(5, made - 1);
    }

    private static void journals(int... askedAndMade) {
        for (int i = 0; i < askedAndMade.length; i += 2) {
            journal(1, askedAndMade[i], askedAndMade[i + 1]);
        }
    }

    private static Run journal(int accounts, int asked, int made) {
        return new Run("a journal of " + asked, accounts, asked)
            .fill(made - 1).count(made - 1, 0).fill(1).count(made, 0)
            .add(Run.FULL, 0, 0).count(made, 0).recover(made).count(made, 0);
    }

    private static void both() {
        journal(LOWEST, LOWEST, 4).amount(0, 0).amount(Run.ARGUMENT, 1);
        journal(HIGHEST, HIGHEST, 60).amount(0, 63).amount(Run.ARGUMENT, 64);
        journal(LOWEST, HIGHEST, 60).amount(0, 0).amount(Run.ARGUMENT, 1);
        journal(HIGHEST, LOWEST, 4).amount(0, 63).amount(Run.ARGUMENT, 64);
    }
}
