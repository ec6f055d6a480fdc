/** Promise 3: move, alone and in a group. */
public final class MoveTest {
    public static void main(String[] args) {
        Run.sentence("An amount goes from an account to another one", MoveTest::goes);
        Run.sentence("as one change", MoveTest::oneChange);
        Run.sentence("0 (as add())", MoveTest::inGroup);
        Run.sentence("POOR", MoveTest::poor);
        Run.sentence("POOR (in a group it is not asked, as add())", MoveTest::poorInGroup);
        Run.sentence("FULL", MoveTest::full);
        Run.sentence("FULL in a group", MoveTest::fullInGroup);
        Run.sentence("POOR is named before FULL", MoveTest::poorBeforeFull);
        Run.sentence("CUT", MoveTest::cut);
        Run.sentence("CUT in a group", MoveTest::cutInGroup);
        Run.sentence("Illegal argument: v is not 0 .. 10^12", MoveTest::bounds);
        Run.sentence("Illegal argument: or it is one account", MoveTest::oneAccount);
        Run.sentence("Illegal argument: there is no such account", MoveTest::noAccount);
        Run.sentence("illegal state", MoveTest::noPower);
        Run.sentence("Of several exceptions the one named first is thrown", MoveTest::argumentFirst);
        Run.finish();
    }

    private static void goes() {
        new Run("a part and all of it", 3, 9)
            .add(1, 0, 10).move(1, 0, 2, 4).amounts(6, 0, 4).move(1, 2, 1, 4).amounts(6, 4, 0)
            .move(1, 1, 0, 4).amounts(10, 0, 0).recover(4).amounts(10, 0, 0);
        new Run("nothing", 3, 9).move(1, 0, 1, 0).amounts(0, 0, 0).changed(1, 1, 0).count(1, 0);
        new Run("the first and the last account", 64, 9)
            .add(1, 0, 5).move(1, 0, 63, 5).amount(0, 0).amount(5, 63).move(1, 63, 0, 5).amount(5, 0);
    }

    private static void oneChange() {
        new Run("one block, and both are changed once", 2, 9)
            .add(1, 0, 5).move(1, 0, 1, 2).changed(2, 1).counts(2, 2, Run.NONE, 0).recover(2).changed(2, 1);
        new Run("one change of a group", 2, 9)
            .add(1, 0, 5).begin(Run.DONE).move(0, 0, 1, 2).counts(2, 2, 1, 0).end(1).changed(2, 1).recover(2);
        new Run("one change that is dropped", 2, 9).begin(Run.DONE).move(0, 0, 1, 2).drop(1);
    }

    private static void inGroup() {
        new Run("written now, happens later", 2, 9)
            .add(1, 0, 5).begin(Run.DONE).move(0, 0, 1, 2).amounts(5, 0).changed(1, 0).counts(2, 2, 1, 0)
            .end(1).amounts(3, 2).changed(2, 1);
    }

    private static void poor() {
        new Run("an empty account", 2, 9)
            .move(Run.POOR, 0, 1, 1).move(Run.POOR, 0, 1, Run.TRILLION).move(1, 0, 1, 0)
            .changed(1, 1).counts(1, 1, Run.NONE, 0);
        new Run("one too many", 2, 9)
            .add(1, 0, 5).move(Run.POOR, 0, 1, 6).amounts(5, 0).changed(1, 0).counts(1, 1, Run.NONE, 0)
            .move(1, 0, 1, 5).amounts(0, 5).move(Run.POOR, 0, 1, 1).move(1, 0, 1, 0).recover(3).amounts(0, 5);
        new Run("what the other one has does not help", 2, 9).add(1, 1, 9).move(Run.POOR, 0, 1, 1).amounts(0, 9);
        new Run("nothing is written, so the power stays", 2, 4)
            .crash(Run.DONE, 1).move(Run.POOR, 0, 1, 1).isDown(false).count(0, 1).move(Run.CUT, 0, 1, 0);
    }

    private static void poorInGroup() {
        new Run("written all the same", 2, 9)
            .begin(Run.DONE).move(0, 0, 1, 1).move(0, 1, 0, Run.TRILLION).counts(2, 2, 2, 0).end(Run.POOR);
    }

    private static void full() {
        new Run("the last block and none", 2, 4)
            .add(1, 0, 5).fill(2).move(1, 0, 1, 2).move(Run.FULL, 0, 1, 1).move(Run.FULL, 0, 1, 0)
            .amounts(3, 2).changed(4, 1).counts(4, 4, Run.NONE, 0).recover(4).amounts(3, 2);
        new Run("nothing is written, so the power stays", 2, 4)
            .fill(4).crash(Run.DONE, 1).move(Run.FULL, 0, 1, 0).isDown(false).count(4, 1);
    }

    private static void fullInGroup() {
        new Run("the last block and none", 2, 4)
            .begin(Run.DONE).fillGroup(3).move(0, 0, 1, 1).move(Run.FULL, 0, 1, 1).counts(4, 4, 4, 0).amounts(0, 0);
    }

    private static void poorBeforeFull() {
        new Run("both are due", 2, 4).fill(4).move(Run.POOR, 0, 1, 1).counts(4, 4, Run.NONE, 0);
    }

    private static void cut() {
        new Run("it has happened behind recovery", 2, 4)
            .add(1, 0, 5).crash(Run.DONE, 1).move(Run.CUT, 0, 1, 3).isDown(true).recover(2)
            .amounts(2, 3).changed(2, 1).counts(2, 2, Run.NONE, 0);
        new Run("not with the block before", 2, 4)
            .crash(Run.DONE, 2).move(1, 0, 1, 0).isDown(false).move(Run.CUT, 0, 1, 0).isDown(true).recover(2);
    }

    private static void cutInGroup() {
        new Run("it was written, but does not happen", 2, 4)
            .add(1, 0, 5).begin(Run.DONE).crash(Run.DONE, 1).move(Run.CUT, 0, 1, 5).isDown(true).recover(1)
            .amounts(5, 0).changed(1, 0).counts(2, 2, Run.NONE, 0);
    }

    private static void bounds() {
        new Run("the largest", 2, 9)
            .add(1, 0, Run.TRILLION).add(1, 0, 1).move(Run.ARGUMENT, 0, 1, Run.TRILLION + 1)
            .move(Run.ARGUMENT, 0, 1, Long.MAX_VALUE).move(1, 0, 1, Run.TRILLION)
            .amounts(1, Run.TRILLION).counts(3, 3, Run.NONE, 0);
        new Run("the smallest", 2, 9)
            .add(1, 0, 5).add(1, 1, 5).move(Run.ARGUMENT, 0, 1, -1).move(Run.ARGUMENT, 0, 1, -Run.TRILLION)
            .move(Run.ARGUMENT, 0, 1, Long.MIN_VALUE).move(1, 0, 1, 0)
            .amounts(5, 5).changed(2, 2).counts(3, 3, Run.NONE, 0);
        new Run("in a group", 2, 9)
            .begin(Run.DONE).move(Run.ARGUMENT, 0, 1, -1).move(Run.ARGUMENT, 0, 1, Run.TRILLION + 1).counts(0, 0, 0, 0)
            .move(0, 0, 1, 0).move(0, 0, 1, Run.TRILLION).counts(2, 2, 2, 0);
        new Run("also if it is full", 2, 4)
            .fill(4).move(Run.ARGUMENT, 0, 1, -1).move(Run.ARGUMENT, 0, 1, Run.TRILLION + 1);
        new Run("also if it is poor", 2, 4)
            .move(Run.ARGUMENT, 0, 1, Run.TRILLION + 1).move(Run.POOR, 0, 1, Run.TRILLION);
    }

    private static void oneAccount() {
        new Run("with nothing, with something, with too much", 2, 9)
            .add(1, 0, 5).move(Run.ARGUMENT, 0, 0, 0).move(Run.ARGUMENT, 0, 0, 1).move(Run.ARGUMENT, 0, 0, 6)
            .move(Run.ARGUMENT, 1, 1, 0).amounts(5, 0).changed(1, 0).counts(1, 1, Run.NONE, 0);
        new Run("in a group", 2, 9)
            .begin(Run.DONE).move(Run.ARGUMENT, 1, 1, 0).move(Run.ARGUMENT, 0, 0, 1).counts(0, 0, 0, 0);
        new Run("if there is but one", 1, 9).move(Run.ARGUMENT, 0, 0, 0).move(Run.ARGUMENT, 0, 1, 0);
        new Run("also if it is full", 2, 4).fill(4).move(Run.ARGUMENT, 1, 1, 0);
    }

    private static void noAccount() {
        new Run("below 0 and above the last", 2, 4)
            .move(Run.ARGUMENT, -1, 0, 0).move(Run.ARGUMENT, 0, -1, 0)
            .move(Run.ARGUMENT, 2, 0, 0).move(Run.ARGUMENT, 0, 2, 0)
            .move(Run.ARGUMENT, Integer.MAX_VALUE, 0, 0).move(Run.ARGUMENT, 0, Integer.MAX_VALUE, 0)
            .move(Run.ARGUMENT, Integer.MIN_VALUE, 0, 0).move(Run.ARGUMENT, 0, Integer.MIN_VALUE, 0)
            .move(Run.ARGUMENT, -1, 2, 0).move(Run.ARGUMENT, -1, -1, 0).move(Run.ARGUMENT, 2, 2, 0)
            .changed(0, 0).counts(0, 0, Run.NONE, 0).move(1, 0, 1, 0).move(1, 1, 0, 0);
        new Run("in a group", 2, 4)
            .begin(Run.DONE).move(Run.ARGUMENT, -1, 0, 0).move(Run.ARGUMENT, 0, 2, 0).counts(0, 0, 0, 0);
    }

    private static void noPower() {
        new Run("the power failed", 2, 4)
            .add(1, 0, 5).crash(Run.DONE, 0).move(Run.STATE, 0, 1, 5).move(Run.STATE, 0, 1, 6).recover(1)
            .amounts(5, 0).counts(1, 1, Run.NONE, 0).move(1, 0, 1, 5);
        new Run("it failed in a group", 2, 4)
            .begin(Run.DONE).crash(Run.DONE, 0).move(Run.STATE, 0, 1, 0).recover(0).counts(0, 0, Run.NONE, 0);
    }

    private static void argumentFirst() {
        new Run("without power", 2, 4)
            .crash(Run.DONE, 0).move(Run.ARGUMENT, 0, 0, 0).move(Run.ARGUMENT, 0, 1, -1)
            .move(Run.ARGUMENT, 0, 1, Run.TRILLION + 1).move(Run.ARGUMENT, 0, 2, 0).move(Run.ARGUMENT, -1, 1, 0)
            .move(Run.STATE, 0, 1, 0).move(Run.STATE, 1, 0, Run.TRILLION);
    }
}
