/** Promise 12: changes. */
public final class ChangesTest {
    public static void main(String[] args) {
        Run.sentence("How often an account was changed", ChangesTest::howOften);
        Run.sentence("(a move changes both)", ChangesTest::both);
        Run.sentence("How often an account was changed: by nothing that did not happen", ChangesTest::onlyHappened);
        Run.sentence("How often an account was changed: once behind recovery too", ChangesTest::once);
        Run.sentence("Illegal argument", ChangesTest::noAccount);
        Run.sentence("illegal state", ChangesTest::noPower);
        Run.sentence("Of several exceptions the one named first is thrown", ChangesTest::argumentFirst);
        Run.finish();
    }

    private static void howOften() {
        new Run("also by nothing, and below 0", 2, 9)
            .changed(0, 0).add(1, 0, 5).changed(1, 0).add(1, 0, -5).changed(2, 0).add(1, 0, 0).changed(3, 0);
        new Run("often", 1, 60).fill(60).changed(60).snapshot(2).fill(60).changed(120);
    }

    private static void both() {
        new Run("alone", 3, 9)
            .add(1, 0, 5).move(1, 0, 1, 5).changed(2, 1, 0).move(1, 1, 0, 5).changed(3, 2, 0)
            .move(1, 1, 2, 0).changed(3, 3, 1);
        new Run("in a group", 3, 9)
            .begin(Run.DONE).add(0, 0, 5).move(0, 0, 2, 1).changed(0, 0, 0).end(2).changed(2, 0, 1);
    }

    private static void onlyHappened() {
        new Run("poor, full, refused", 2, 4)
            .add(Run.POOR, 0, -1).move(Run.POOR, 0, 1, 1).move(Run.ARGUMENT, 0, 0, 0).changed(0, 0)
            .fill(4).add(Run.FULL, 0, 1).move(Run.FULL, 0, 1, 0).changed(4, 0);
        new Run("a group before its end, dropped, poor", 2, 9)
            .begin(Run.DONE).add(0, 0, 1).changed(0, 0).drop(1).changed(0, 0)
            .begin(Run.DONE).add(0, 0, 1).add(0, 0, -2).end(Run.POOR).changed(0, 0);
    }

    private static void once() {
        new Run("kept by a snapshot", 2, 4)
            .add(1, 0, 1).add(1, 0, 1).snapshot(2).changed(2, 0).add(1, 0, 1).recover(1).recover(1).changed(3, 0);
        new Run("by a cut change", 2, 4).crash(Run.DONE, 1).move(Run.CUT, 0, 1, 0).recover(1).changed(1, 1);
    }

    private static void noAccount() {
        new Run("the first and the last", 2, 4)
            .changes(Run.ARGUMENT, -1).changes(0, 0).changes(0, 1).changes(Run.ARGUMENT, 2)
            .changes(Run.ARGUMENT, Integer.MIN_VALUE).changes(Run.ARGUMENT, Integer.MAX_VALUE);
        new Run("of 64", 64, 4).changes(0, 63).changes(Run.ARGUMENT, 64);
        new Run("of one", 1, 4).changes(0, 0).changes(Run.ARGUMENT, 1);
    }

    private static void noPower() {
        new Run("until recovery", 2, 4)
            .add(1, 1, 3).crash(Run.DONE, 0).changes(Run.STATE, 0).changes(Run.STATE, 1).recover(1).changed(0, 1);
    }

    private static void argumentFirst() {
        new Run("without power", 2, 4).crash(Run.DONE, 0).changes(Run.ARGUMENT, 2).changes(Run.ARGUMENT, -1);
    }
}
