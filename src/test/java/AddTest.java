/** Promise 2: add, alone and in a group. */
public final class AddTest {
    public static void main(String[] args) {
        Run.sentence("An amount (also below 0) comes to an account: 1", AddTest::comes);
        Run.sentence("0 in a group, in which it is written now and happens later", AddTest::inGroup);
        Run.sentence("POOR: the account would have less than 0", AddTest::poor);
        Run.sentence("(in a group it is not asked)", AddTest::poorInGroup);
        Run.sentence("FULL", AddTest::full);
        Run.sentence("FULL in a group", AddTest::fullInGroup);
        Run.sentence("POOR is named before FULL", AddTest::poorBeforeFull);
        Run.sentence("CUT", AddTest::cut);
        Run.sentence("CUT in a group", AddTest::cutInGroup);
        Run.sentence("Illegal argument: v is not -10^12 .. 10^12", AddTest::bounds);
        Run.sentence("Illegal argument: v is not -10^12 .. 10^12, in a group", AddTest::boundsInGroup);
        Run.sentence("Illegal argument: there is no such account", AddTest::noAccount);
        Run.sentence("illegal state", AddTest::noPower);
        Run.sentence("Of several exceptions the one named first is thrown", AddTest::argumentFirst);
        Run.finish();
    }

    private static void comes() {
        new Run("above, below and just 0", 3, 9)
            .add(1, 1, 7).amounts(0, 7, 0).add(1, 1, -3).amounts(0, 4, 0).add(1, 1, -4).amounts(0, 0, 0)
            .add(1, 2, 0).amounts(0, 0, 0).changed(0, 3, 1).counts(4, 4, Run.NONE, 0)
            .recover(4).amounts(0, 0, 0).changed(0, 3, 1);
        new Run("the first and the last account", 64, 9)
            .add(1, 0, 1).add(1, 63, 2).amount(1, 0).amount(2, 63).amount(0, 1).amount(0, 62);
    }

    private static void inGroup() {
        new Run("written now", 2, 9)
            .add(1, 0, 1).begin(Run.DONE).add(0, 0, 5).amounts(1, 0).changed(1, 0).counts(2, 2, 1, 0)
            .add(0, 1, 6).amounts(1, 0).changed(1, 0).counts(3, 3, 2, 0)
            .end(2).amounts(6, 6).changed(2, 1);
    }

    private static void poor() {
        new Run("an empty account", 2, 4)
            .add(Run.POOR, 0, -1).add(Run.POOR, 0, -Run.TRILLION).add(1, 0, 0).amounts(0, 0).changed(1, 0)
            .counts(1, 1, Run.NONE, 0);
        new Run("one too many", 2, 4)
            .add(1, 0, 5).add(Run.POOR, 0, -6).amounts(5, 0).changed(1, 0).counts(1, 1, Run.NONE, 0)
            .add(1, 0, -5).amounts(0, 0).changed(2, 0).add(Run.POOR, 0, -1).recover(2).amounts(0, 0);
        new Run("another account's amount does not help", 2, 4).add(1, 1, 9).add(Run.POOR, 0, -1).amounts(0, 9);
        new Run("one too many of the largest", 1, 9)
            .add(1, 0, Run.TRILLION - 1).add(Run.POOR, 0, -Run.TRILLION).add(1, 0, 1).add(1, 0, -Run.TRILLION);
        new Run("nothing is written, so the power stays", 1, 4)
            .crash(Run.DONE, 1).add(Run.POOR, 0, -1).isDown(false).count(0, 1).add(Run.CUT, 0, 1);
    }

    private static void poorInGroup() {
        new Run("written all the same", 1, 9)
            .begin(Run.DONE).add(0, 0, -1).add(0, 0, -Run.TRILLION).counts(2, 2, 2, 0).amounts(0).end(Run.POOR);
        new Run("the end asks", 1, 9)
            .add(1, 0, 5).begin(Run.DONE).add(0, 0, -6).end(Run.POOR).begin(Run.DONE).add(0, 0, -5).end(1).amounts(0);
    }

    private static void full() {
        new Run("the last block and none", 1, 4)
            .fill(3).add(1, 0, 7).add(Run.FULL, 0, 1).add(Run.FULL, 0, -1).add(Run.FULL, 0, 0)
            .amounts(7).changed(4).counts(4, 4, Run.NONE, 0).recover(4).amounts(7).changed(4);
        new Run("the longest journal", 1, 60).fill(60).add(Run.FULL, 0, 1).counts(60, 60, Run.NONE, 0);
        new Run("free again by a snapshot", 1, 4).fill(4).add(Run.FULL, 0, 1).snapshot(2).fill(4).add(Run.FULL, 0, 1);
        new Run("nothing is written, so the power stays", 1, 4)
            .fill(4).crash(Run.DONE, 1).add(Run.FULL, 0, 1).isDown(false).count(4, 1);
    }

    private static void fullInGroup() {
        new Run("the last block and none", 1, 4)
            .begin(Run.DONE).fillGroup(4).counts(4, 4, 4, 0).add(Run.FULL, 0, 1).add(Run.FULL, 0, -1)
            .counts(4, 4, 4, 0).amounts(0);
        new Run("a group that found it full", 1, 4)
            .fill(4).begin(Run.DONE).add(Run.FULL, 0, 1).counts(4, 4, 0, 0).drop(0);
    }

    private static void poorBeforeFull() {
        new Run("both are due", 1, 4).fill(4).add(Run.POOR, 0, -1).counts(4, 4, Run.NONE, 0);
    }

    private static void cut() {
        new Run("it has happened behind recovery", 2, 4)
            .add(1, 0, 3).crash(Run.DONE, 1).add(Run.CUT, 0, 8).isDown(true).recover(2).isDown(false)
            .amounts(11, 0).changed(2, 0).counts(2, 2, Run.NONE, 0);
        new Run("not with the block before", 1, 4)
            .crash(Run.DONE, 2).add(1, 0, 1).isDown(false).add(Run.CUT, 0, 1).isDown(true).recover(2).amounts(2);
        new Run("with the journal's last block", 1, 4)
            .fill(3).crash(Run.DONE, 1).add(Run.CUT, 0, 1).recover(4).amounts(1).count(4, 0);
    }

    private static void cutInGroup() {
        new Run("it was written, but does not happen", 2, 4)
            .begin(Run.DONE).crash(Run.DONE, 1).add(Run.CUT, 0, 5).isDown(true).recover(0)
            .amounts(0, 0).changed(0, 0).counts(1, 1, Run.NONE, 0);
    }

    private static void bounds() {
        new Run("the largest", 1, 9)
            .add(1, 0, Run.TRILLION).add(Run.ARGUMENT, 0, Run.TRILLION + 1).add(Run.ARGUMENT, 0, Long.MAX_VALUE)
            .amounts(Run.TRILLION).changed(1).counts(1, 1, Run.NONE, 0);
        new Run("the smallest", 1, 9)
            .add(1, 0, Run.TRILLION).add(1, 0, Run.TRILLION).add(Run.ARGUMENT, 0, -Run.TRILLION - 1)
            .add(Run.ARGUMENT, 0, Long.MIN_VALUE).add(1, 0, -Run.TRILLION).add(1, 0, -Run.TRILLION)
            .amounts(0).changed(4).counts(4, 4, Run.NONE, 0);
        new Run("an amount may be larger", 1, 9)
            .add(1, 0, Run.TRILLION).add(1, 0, Run.TRILLION).add(1, 0, Run.TRILLION).amounts(3 * Run.TRILLION);
        new Run("also if it is full", 1, 4).fill(4).add(Run.ARGUMENT, 0, Run.TRILLION + 1).add(Run.FULL, 0, Run.TRILLION);
        new Run("also if it is poor", 1, 4).add(Run.ARGUMENT, 0, -Run.TRILLION - 1).add(Run.POOR, 0, -Run.TRILLION);
    }

    private static void boundsInGroup() {
        new Run("in a group", 1, 9).begin(Run.DONE)
            .add(0, 0, Run.TRILLION).add(0, 0, -Run.TRILLION).add(Run.ARGUMENT, 0, Run.TRILLION + 1)
            .add(Run.ARGUMENT, 0, -Run.TRILLION - 1).counts(2, 2, 2, 0).end(2).amounts(0);
    }

    private static void noAccount() {
        new Run("below 0 and above the last", 2, 4)
            .add(Run.ARGUMENT, -1, 1).add(Run.ARGUMENT, 2, 1)
            .add(Run.ARGUMENT, Integer.MIN_VALUE, 1).add(Run.ARGUMENT, Integer.MAX_VALUE, 1)
            .amounts(0, 0).counts(0, 0, Run.NONE, 0).add(1, 0, 1).add(1, 1, 1);
        new Run("in a group", 2, 4)
            .begin(Run.DONE).add(Run.ARGUMENT, -1, 1).add(Run.ARGUMENT, 2, 1).counts(0, 0, 0, 0).end(0);
        new Run("also if it is full", 2, 4).fill(4).add(Run.ARGUMENT, -1, 1).add(Run.ARGUMENT, 2, 1);
    }

    private static void noPower() {
        new Run("the power failed", 2, 4)
            .crash(Run.DONE, 0).add(Run.STATE, 0, 1).add(Run.STATE, 0, -1).recover(0)
            .amounts(0, 0).counts(0, 0, Run.NONE, 0).add(1, 0, 1);
        new Run("it failed in a group", 2, 4)
            .begin(Run.DONE).crash(Run.DONE, 0).add(Run.STATE, 0, 1).recover(0).counts(0, 0, Run.NONE, 0);
        new Run("it failed and the journal is full", 2, 4)
            .fill(4).crash(Run.DONE, 0).add(Run.STATE, 0, 1).add(Run.STATE, 0, -1).recover(4);
    }

    private static void argumentFirst() {
        new Run("without power", 2, 4)
            .crash(Run.DONE, 0).add(Run.ARGUMENT, 2, 1).add(Run.ARGUMENT, -1, 1)
            .add(Run.ARGUMENT, 0, Run.TRILLION + 1).add(Run.ARGUMENT, 0, -Run.TRILLION - 1)
            .add(Run.STATE, 0, Run.TRILLION).add(Run.STATE, 1, -Run.TRILLION);
    }
}
