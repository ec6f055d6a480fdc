/** Promise 1: the constructor and its bounds. */
public final class NewObjectTest {
    public static void main(String[] args) {
        new Run("a new object", 2, 4).isDown(false)
            .amount(0, 0).amount(0, 1).changes(0, 0).changes(0, 1)
            .count(0, 0).count(0, 1).count(Run.NONE, 2).count(0, 3)
            .recover(0).amount(0, 1);
        accounts(Integer.MIN_VALUE, 1);
        accounts(-1, 1);
        accounts(0, 1);
        accounts(1, 1);
        accounts(2, 2);
        accounts(63, 63);
        accounts(64, 64);
        accounts(65, 64);
        accounts(Integer.MAX_VALUE, 64);
        journal(Integer.MIN_VALUE, 4);
        journal(-1, 4);
        journal(3, 4);
        journal(4, 4);
        journal(5, 5);
        journal(59, 59);
        journal(60, 60);
        journal(61, 60);
        journal(Integer.MAX_VALUE, 60);
        Run.finish();
    }

    private static void accounts(int asked, int made) {
        new Run(asked + " accounts", asked, 9)
            .amount(0, made - 1).add(1, made - 1, 5).amount(5, made - 1)
            .amount(Run.ARGUMENT, made).add(Run.ARGUMENT, made, 5).amount(Run.ARGUMENT, -1);
    }

    private static void journal(int asked, int made) {
        new Run("a journal of " + asked, 1, asked)
            .fill(made).count(made, 0).add(Run.FULL, 0, 0).count(made, 0);
    }
}
