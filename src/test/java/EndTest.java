/** Promise 5: end. */
public final class EndTest {
    public static void main(String[] args) {
        Run.sentence("The group's end is written: how many changes happen", EndTest::happen);
        Run.sentence("The group's end is written: an empty group", EndTest::empty);
        Run.sentence("POOR, and they do not", EndTest::poor);
        Run.sentence("(the group is dropped, nothing is written)", EndTest::poorIsDropped);
        Run.sentence("an account would have less than 0", EndTest::lessThanNothing);
        Run.sentence("behind one of them, one after the other", EndTest::oneAfterTheOther);
        Run.sentence("FULL (the group stays)", EndTest::full);
        Run.sentence("FULL: the last block is enough", EndTest::lastBlock);
        Run.sentence("POOR is named before FULL", EndTest::poorBeforeFull);
        Run.sentence("CUT", EndTest::cut);
        Run.sentence("Illegal state: there is no group", EndTest::noGroup);
        Run.sentence("Illegal state: the power failed", EndTest::noPower);
        Run.finish();
    }

    private static void happen() {
        new Run("all together", 3, 9)
            .add(1, 0, 10).begin(Run.DONE).move(0, 0, 1, 10).move(0, 1, 2, 4).add(0, 0, 1).amounts(10, 0, 0)
            .end(3).amounts(1, 6, 4).changed(3, 2, 1).counts(5, 5, Run.NONE, 0)
            .recover(4).amounts(1, 6, 4).changed(3, 2, 1);
        new Run("one", 1, 4).begin(Run.DONE).add(0, 0, 3).end(1).amounts(3).counts(2, 2, Run.NONE, 0);
        new Run("only its own, not those of groups before", 2, 20)
            .begin(Run.DONE).add(0, 0, 1).add(0, 0, 1).end(2).begin(Run.DONE).add(0, 1, 1).end(1).amounts(2, 1)
            .begin(Run.DONE).add(0, 0, 9).add(0, 0, 9).drop(2).begin(Run.DONE).add(0, 1, 1).end(1).amounts(2, 2)
            .begin(Run.DONE).end(0).amounts(2, 2).recover(4).amounts(2, 2).changed(2, 2);
    }

    private static void empty() {
        new Run("its end is a block too", 1, 4)
            .begin(Run.DONE).end(0).counts(1, 1, Run.NONE, 0).amounts(0).changed(0).recover(0).counts(1, 1, Run.NONE, 0);
        new Run("four of them fill a journal", 1, 4)
            .begin(Run.DONE).end(0).begin(Run.DONE).end(0).begin(Run.DONE).end(0).begin(Run.DONE).end(0)
            .add(Run.FULL, 0, 1).begin(Run.DONE).end(Run.FULL).counts(4, 4, 0, 0);
        new Run("cut", 1, 4)
            .begin(Run.DONE).crash(Run.DONE, 1).end(Run.CUT).isDown(true).recover(0).counts(1, 1, Run.NONE, 0);
    }

    private static void poor() {
        new Run("by the first", 2, 9)
            .begin(Run.DONE).add(0, 0, -1).add(0, 1, 5).end(Run.POOR).amounts(0, 0).changed(0, 0)
            .recover(0).amounts(0, 0).changed(0, 0);
        new Run("by the last", 2, 9)
            .add(1, 0, 5).begin(Run.DONE).move(0, 0, 1, 5).move(0, 0, 1, 1).end(Run.POOR)
            .amounts(5, 0).changed(1, 0).recover(1).amounts(5, 0).changed(1, 0);
        new Run("by one in the middle", 2, 9)
            .begin(Run.DONE).add(0, 0, 5).add(0, 1, -1).add(0, 1, 5).end(Run.POOR).amounts(0, 0).changed(0, 0)
            .begin(Run.DONE).add(0, 1, 2).end(1).recover(1).amounts(0, 2).changed(0, 1);
    }

    private static void poorIsDropped() {
        new Run("no group, its blocks stay used, and no block for its end", 1, 9)
            .begin(Run.DONE).add(0, 0, -1).add(0, 0, 5).counts(2, 2, 2, 0).end(Run.POOR)
            .counts(2, 2, Run.NONE, 0).end(Run.STATE).drop(Run.STATE).begin(Run.DONE).counts(2, 2, 0, 0);
        new Run("so the power stays", 1, 9)
            .begin(Run.DONE).add(0, 0, -1).crash(Run.DONE, 1).end(Run.POOR).isDown(false).add(Run.CUT, 0, 1)
            .recover(1).amounts(1);
        new Run("behind it a change happens at once", 1, 9)
            .begin(Run.DONE).add(0, 0, -1).end(Run.POOR).add(1, 0, 4).amounts(4).add(Run.POOR, 0, -5);
    }

    private static void lessThanNothing() {
        new Run("just 0 is not less", 2, 9)
            .add(1, 0, 5).begin(Run.DONE).move(0, 0, 1, 5).add(0, 1, -5).end(2).amounts(0, 0);
        new Run("one less by an addition", 2, 9).add(1, 0, 5).begin(Run.DONE).add(0, 0, -6).end(Run.POOR).amounts(5, 0);
        new Run("one less by a move", 2, 9)
            .add(1, 0, 5).begin(Run.DONE).move(0, 0, 1, 6).end(Run.POOR).amounts(5, 0);
        new Run("the last account", 64, 9)
            .add(1, 63, 5).begin(Run.DONE).add(0, 63, -6).end(Run.POOR).begin(Run.DONE).add(0, 63, -5).end(1);
        new Run("what happened before the group counts, what was dropped does not", 1, 9)
            .add(1, 0, 2).begin(Run.DONE).add(0, 0, 9).drop(1).begin(Run.DONE).add(0, 0, -3).end(Run.POOR)
            .begin(Run.DONE).add(0, 0, -2).end(1).amounts(0);
    }

    private static void oneAfterTheOther() {
        new Run("less in between", 1, 9)
            .begin(Run.DONE).add(0, 0, -5).add(0, 0, 10).end(Run.POOR)
            .begin(Run.DONE).add(0, 0, 10).add(0, 0, -5).end(2).amounts(5).changed(2).recover(2).amounts(5);
        new Run("less in between by moves", 3, 12)
            .add(1, 0, 5).begin(Run.DONE).move(0, 1, 2, 5).move(0, 0, 1, 5).end(Run.POOR).amounts(5, 0, 0)
            .begin(Run.DONE).move(0, 0, 1, 5).move(0, 1, 2, 5).end(2).amounts(0, 0, 5);
    }

    private static void full() {
        new Run("it found no block", 1, 4)
            .begin(Run.DONE).fillGroup(4).end(Run.FULL).end(Run.FULL).counts(4, 4, 4, 0).amounts(0).changed(0)
            .add(Run.FULL, 0, 1).drop(4).counts(4, 4, Run.NONE, 0).recover(0).amounts(0);
        new Run("an empty group", 1, 4).fill(4).begin(Run.DONE).end(Run.FULL).counts(4, 4, 0, 0).drop(0);
        new Run("nothing is written, so the power stays", 1, 4)
            .begin(Run.DONE).fillGroup(4).crash(Run.DONE, 1).end(Run.FULL).isDown(false).counts(4, 4, 4, 0);
        new Run("the longest journal", 1, 60).begin(Run.DONE).fillGroup(60).end(Run.FULL).counts(60, 60, 60, 0);
    }

    private static void lastBlock() {
        new Run("three changes in four blocks", 1, 4)
            .begin(Run.DONE).fillGroup(3).end(3).amounts(3).counts(4, 4, Run.NONE, 0).recover(3).amounts(3);
        new Run("59 changes in 60 blocks", 1, 60)
            .begin(Run.DONE).fillGroup(59).end(59).amounts(59).counts(60, 60, Run.NONE, 0).recover(59).amounts(59);
    }

    private static void poorBeforeFull() {
        new Run("both are due", 1, 4)
            .fill(3).begin(Run.DONE).add(0, 0, -1).end(Run.POOR).counts(4, 4, Run.NONE, 0).end(Run.STATE);
    }

    private static void cut() {
        new Run("all have happened behind recovery", 2, 9)
            .begin(Run.DONE).add(0, 0, 3).move(0, 0, 1, 1).crash(Run.DONE, 1).end(Run.CUT).isDown(true)
            .recover(2).isDown(false).amounts(2, 1).changed(2, 1).counts(3, 3, Run.NONE, 0);
        new Run("with the journal's last block", 1, 4)
            .begin(Run.DONE).fillGroup(3).crash(Run.DONE, 1).end(Run.CUT).recover(3).amounts(3).count(4, 0);
        new Run("not if one block more can be written", 1, 9)
            .begin(Run.DONE).fillGroup(1).crash(Run.DONE, 2).end(1).isDown(false).add(Run.CUT, 0, 1);
    }

    private static void noGroup() {
        new Run("a new object", 1, 9).end(Run.STATE).counts(0, 0, Run.NONE, 0);
        new Run("behind an end", 1, 9).begin(Run.DONE).end(0).end(Run.STATE).counts(1, 1, Run.NONE, 0);
        new Run("behind a poor end", 1, 9).begin(Run.DONE).add(0, 0, -1).end(Run.POOR).end(Run.STATE).count(1, 1);
        new Run("behind a drop", 1, 9).begin(Run.DONE).add(0, 0, 1).drop(1).end(Run.STATE).count(1, 1).amounts(0);
        new Run("behind recovery", 1, 9).begin(Run.DONE).add(0, 0, 1).recover(0).end(Run.STATE).count(1, 1);
        new Run("behind a cut end", 1, 9)
            .begin(Run.DONE).add(0, 0, 1).crash(Run.DONE, 1).end(Run.CUT).recover(1).end(Run.STATE).count(2, 1);
        new Run("behind single changes", 1, 9).add(1, 0, 1).end(Run.STATE).count(1, 1);
    }

    private static void noPower() {
        new Run("before the end", 2, 9)
            .begin(Run.DONE).add(0, 0, 3).crash(Run.DONE, 0).end(Run.STATE).recover(0).end(Run.STATE)
            .amounts(0, 0).counts(1, 1, Run.NONE, 0);
        new Run("a poor group", 2, 9).begin(Run.DONE).add(0, 0, -1).crash(Run.DONE, 0).end(Run.STATE).recover(0);
        new Run("without a group", 2, 9).crash(Run.DONE, 0).end(Run.STATE).recover(0).end(Run.STATE);
    }
}
