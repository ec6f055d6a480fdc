/** "What it is" and "Terms": what holds for every promise. */
public final class TermsTest {
    private static final int CALLS = 512;

    public static void main(String[] args) {
        Run.sentence("An object is used for at most 512 calls: changes", TermsTest::manyChanges);
        Run.sentence("An object is used for at most 512 calls: snapshots", TermsTest::manySnapshots);
        Run.sentence("An object is used for at most 512 calls: recoveries", TermsTest::manyRecoveries);
        Run.sentence("ACCOUNTS are 0 .. n - 1, each with an amount, 0 at first, and a number of CHANGES",
            TermsTest::accounts);
        Run.sentence("THE DISK has blocks; a journal has J of them", TermsTest::journals);
        Run.sentence("A CHANGE is written (one block) before it happens: FULL, if no block of the journal is left",
            TermsTest::full);
        Run.sentence("CUT, if the power failed with this block: then it has happened behind recovery",
            TermsTest::cut);
        Run.sentence("A GROUP of changes is written change by change, and by one block more at its end",
            TermsTest::groupBlocks);
        Run.sentence("its changes happen all together then, or not at all, if the power fails before that block was written",
            TermsTest::groupIsWhole);
        Run.sentence("its changes happen not at all, if the group is dropped", TermsTest::groupIsDropped);
        Run.sentence("Illegal state: the power failed", TermsTest::noPower);
        Run.sentence("NONE = -1, FULL = -2, CUT = -3, POOR = -4", TermsTest::constants);
        Run.finish();
    }

    private static void manyChanges() {
        Run run = new Run("the 512th call answers too", 64, 60);
        int changes = 0;
        for (int call = 1; call <= CALLS - 2; call++) {
            if (call % 61 == 0) {
                run.snapshot(5);
            } else {
                run.add(1, 63, Run.TRILLION);
                changes++;
            }
        }
        run.changes(changes, 63).amount(changes * Run.TRILLION, 63);
    }

    private static void manySnapshots() {
        Run run = new Run("the 512th call answers too", 64, 4);
        for (int i = 1; i < CALLS - 1; i++) {
            run.snapshot(5);
        }
        run.count(5 * (CALLS - 2), 1).count(CALLS - 2, 3);
    }

    private static void manyRecoveries() {
        Run run = new Run("the 512th call answers too", 2, 60).fill(60);
        for (int i = 60; i < CALLS - 1; i++) {
            run.recover(60);
        }
        run.changes(60, 0);
    }

    private static void accounts() {
        for (int n : new int[] {1, 2, 16, 17, 64}) {
            Run run = new Run(n + " accounts", n, 60);
            for (int account = 0; account < n; account++) {
                run.amount(0, account).changes(0, account);
            }
            run.amount(Run.ARGUMENT, n).changes(Run.ARGUMENT, n).amount(Run.ARGUMENT, -1).changes(Run.ARGUMENT, -1);
            run.add(1, n - 1, 7).amount(7, n - 1).changes(1, n - 1).amount(n == 1 ? 7 : 0, 0);
        }
    }

    private static void journals() {
        for (int blocks = 4; blocks <= 60; blocks++) {
            new Run("a journal of " + blocks, 1, blocks)
                .fill(blocks).add(Run.FULL, 0, 0).counts(blocks, blocks, Run.NONE, 0)
                .snapshot(2).fill(blocks).add(Run.FULL, 0, 0).recover(blocks);
        }
    }

    private static void full() {
        new Run("one block is left", 2, 4).fill(3).add(1, 0, 1);
        new Run("none is left", 2, 4).fill(4).add(Run.FULL, 0, 1).move(Run.FULL, 0, 1, 0).amounts(0, 0).changed(4, 0);
        new Run("one is left in a group", 2, 4).fill(3).begin(Run.DONE).add(0, 0, 1).count(4, 0);
        new Run("none is left in a group", 2, 4)
            .fill(4).begin(Run.DONE).add(Run.FULL, 0, 1).move(Run.FULL, 0, 1, 0).end(Run.FULL).counts(4, 4, 0, 0);
        new Run("one is left for an end", 2, 4).fill(3).begin(Run.DONE).end(0).count(4, 0);
    }

    private static void cut() {
        new Run("an addition and a move", 2, 9)
            .crash(Run.DONE, 1).add(Run.CUT, 0, 5).recover(1).amounts(5, 0).changed(1, 0)
            .crash(Run.DONE, 1).move(Run.CUT, 0, 1, 2).recover(2).amounts(3, 2).changed(2, 1);
        new Run("the power failed before: it was not written", 2, 9)
            .crash(Run.DONE, 0).add(Run.STATE, 0, 5).recover(0).amounts(0, 0).counts(0, 0, Run.NONE, 0);
    }

    private static void groupBlocks() {
        for (int size = 0; size <= 8; size++) {
            Run run = new Run("a group of " + size, 1, 9).begin(Run.DONE).counts(0, 0, 0, 0);
            for (int i = 1; i <= size; i++) {
                run.add(0, 0, 1).counts(i, i, i, 0);
            }
            run.end(size).counts(size + 1, size + 1, Run.NONE, 0).amounts(size).changed(size).recover(size);
        }
    }

    /** A group of three changes, four blocks, with power for 0 to 5 blocks. */
    private static void groupIsWhole() {
        new Run("power for no block", 2, 9)
            .begin(Run.DONE).crash(Run.DONE, 0).recover(0).counts(0, 0, Run.NONE, 0);
        new Run("power for 1 block", 2, 9)
            .begin(Run.DONE).crash(Run.DONE, 1).add(Run.CUT, 0, 5)
            .recover(0).amounts(0, 0).changed(0, 0).counts(1, 1, Run.NONE, 0);
        new Run("power for 2 blocks", 2, 9)
            .begin(Run.DONE).crash(Run.DONE, 2).add(0, 0, 5).move(Run.CUT, 0, 1, 2)
            .recover(0).amounts(0, 0).changed(0, 0).counts(2, 2, Run.NONE, 0);
        new Run("power for 3 blocks", 2, 9)
            .begin(Run.DONE).crash(Run.DONE, 3).add(0, 0, 5).move(0, 0, 1, 2).add(Run.CUT, 1, 1).end(Run.STATE)
            .recover(0).amounts(0, 0).changed(0, 0).counts(3, 3, Run.NONE, 0);
        new Run("power for 4 blocks", 2, 9)
            .begin(Run.DONE).crash(Run.DONE, 4).add(0, 0, 5).move(0, 0, 1, 2).add(0, 1, 1).end(Run.CUT)
            .recover(3).amounts(3, 3).changed(2, 2).counts(4, 4, Run.NONE, 0);
        new Run("power for 5 blocks", 2, 9)
            .begin(Run.DONE).crash(Run.DONE, 5).add(0, 0, 5).move(0, 0, 1, 2).add(0, 1, 1).end(3).isDown(false)
            .amounts(3, 3).changed(2, 2).counts(4, 4, Run.NONE, 0).add(Run.CUT, 0, 1).recover(4).amounts(4, 3);
    }

    private static void groupIsDropped() {
        new Run("by drop, by a poor end, by recovery", 1, 9)
            .begin(Run.DONE).add(0, 0, 1).drop(1).begin(Run.DONE).add(0, 0, 1).add(0, 0, -2).end(Run.POOR)
            .begin(Run.DONE).add(0, 0, 1).recover(0).amounts(0).changed(0).begin(Run.DONE).add(0, 0, 7).end(1)
            .amounts(7).changed(1).recover(1).amounts(7).changed(1).counts(6, 6, Run.NONE, 0);
    }

    private static void noPower() {
        new Run("all calls but recover() and isDown()", 2, 9)
            .crash(Run.DONE, 0).add(Run.STATE, 0, 0).move(Run.STATE, 0, 1, 0).begin(Run.STATE).end(Run.STATE)
            .drop(Run.STATE).snapshot(Run.STATE).crash(Run.STATE, 1).amount(Run.STATE, 0).changes(Run.STATE, 0)
            .count(Run.STATE, 0).isDown(true).recover(0).counts(0, 0, Run.NONE, 0);
    }

    private static void constants() {
        Run.compare("NONE", String.valueOf(ReplayJournal.NONE), -1);
        Run.compare("FULL", String.valueOf(ReplayJournal.FULL), -2);
        Run.compare("CUT", String.valueOf(ReplayJournal.CUT), -3);
        Run.compare("POOR", String.valueOf(ReplayJournal.POOR), -4);
    }
}
