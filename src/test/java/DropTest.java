/** Promise 6: drop. */
public final class DropTest {
    public static void main(String[] args) {
        new Run("its blocks stay used", 2, 9)
            .add(1, 0, 5).begin(Run.DONE).add(0, 0, 1).move(0, 0, 1, 2).drop(2)
            .amount(5, 0).amount(0, 1).changes(1, 0).count(3, 0).count(3, 1).count(Run.NONE, 2)
            .recover(1).amount(5, 0).count(3, 0);
        new Run("no group", 2, 4)
            .drop(Run.STATE).begin(Run.DONE).drop(0).drop(Run.STATE).begin(Run.DONE).end(0).drop(Run.STATE);
        new Run("a later group does not bring it back", 3, 9)
            .begin(Run.DONE).add(0, 0, 1).add(0, 1, 1).drop(2).begin(Run.DONE).add(0, 2, 7).end(1)
            .recover(1).amount(0, 0).amount(0, 1).amount(7, 2);
        new Run("a single change behind it does not either", 2, 9)
            .begin(Run.DONE).add(0, 0, 1).drop(1).add(1, 1, 2).recover(1).amount(0, 0).amount(2, 1);
        new Run("a full group", 1, 4)
            .begin(Run.DONE).add(0, 0, 1).add(0, 0, 1).add(0, 0, 1).add(0, 0, 1).add(Run.FULL, 0, 1).drop(4)
            .add(Run.FULL, 0, 1).count(4, 0);
        new Run("it writes nothing", 1, 4).begin(Run.DONE).crash(Run.DONE, 1).drop(0).isDown(false).count(0, 1);
        new Run("without power", 1, 4).begin(Run.DONE).crash(Run.DONE, 0).drop(Run.STATE).recover(0).drop(Run.STATE);
        Run.finish();
    }
}
