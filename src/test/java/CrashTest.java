/** Promise 8: crash. */
public final class CrashTest {
    public static void main(String[] args) {
        Run.sentence("The power will fail when n more blocks were written", CrashTest::behindBlocks);
        Run.sentence("Terms: when n more blocks were written, by anything", CrashTest::byAnything);
        Run.sentence("Terms: blocks, and nothing else", CrashTest::byBlocksAlone);
        Run.sentence("whatever was said before", CrashTest::saidAgain);
        Run.sentence("with n = 0 it fails at once", CrashTest::atOnce);
        Run.sentence("with NONE it will not", CrashTest::notAtAll);
        Run.sentence("Illegal argument: n is not NONE .. 1000", CrashTest::bounds);
        Run.sentence("n = 1000", CrashTest::thousand);
        Run.sentence("illegal state: the power failed", CrashTest::noPower);
        Run.sentence("Of several exceptions the one named first is thrown", CrashTest::argumentFirst);
        Run.finish();
    }

    private static void behindBlocks() {
        for (int n = 1; n <= 8; n++) {
            new Run("n = " + n, 1, 9)
                .crash(Run.DONE, n).fill(n - 1).isDown(false).add(Run.CUT, 0, 1).isDown(true)
                .recover(n).amounts(1).counts(n, n, Run.NONE, 0);
        }
        new Run("blocks written before do not count", 1, 9).fill(3).crash(Run.DONE, 2).fill(1).add(Run.CUT, 0, 1);
    }

    private static void byAnything() {
        new Run("an addition", 2, 9).crash(Run.DONE, 2).add(1, 0, 1).isDown(false).add(Run.CUT, 0, 1).isDown(true);
        new Run("a move", 2, 9).crash(Run.DONE, 2).move(1, 0, 1, 0).isDown(false).move(Run.CUT, 0, 1, 0).isDown(true);
        new Run("a group's changes and its end", 2, 9)
            .crash(Run.DONE, 3).begin(Run.DONE).add(0, 0, 1).move(0, 0, 1, 1).isDown(false).end(Run.CUT).isDown(true);
        new Run("a snapshot", 64, 9).crash(Run.DONE, 6).snapshot(5).isDown(false).snapshot(Run.CUT).isDown(true);
        new Run("all of them", 2, 9)
            .crash(Run.DONE, 7).add(1, 0, 1).begin(Run.DONE).add(0, 0, 1).end(1).snapshot(2).move(1, 0, 1, 1)
            .isDown(false).add(Run.CUT, 0, 1).isDown(true).recover(2).amounts(2, 1).count(7, 1);
    }

    private static void byBlocksAlone() {
        new Run("one block of power is left", 2, 4)
            .add(1, 0, 2).crash(Run.DONE, 1).add(Run.POOR, 0, -3).move(Run.POOR, 0, 1, 3).add(Run.ARGUMENT, 2, 1)
            .begin(Run.DONE).drop(0).end(Run.STATE).amounts(2, 0).changed(1, 0).counts(1, 1, Run.NONE, 0)
            .isDown(false).add(Run.CUT, 0, 1).isDown(true);
        new Run("and the journal is full", 2, 4)
            .fill(4).crash(Run.DONE, 1).add(Run.FULL, 0, 1).move(Run.FULL, 0, 1, 0)
            .begin(Run.DONE).add(Run.FULL, 0, 1).end(Run.FULL).drop(0).isDown(false).snapshot(Run.CUT).isDown(true);
    }

    private static void saidAgain() {
        new Run("more than before", 1, 9).crash(Run.DONE, 1).crash(Run.DONE, 2).fill(1).add(Run.CUT, 0, 1);
        new Run("less than before", 1, 9).crash(Run.DONE, 5).crash(Run.DONE, 1).add(Run.CUT, 0, 1);
        new Run("the same, some blocks later", 1, 9)
            .crash(Run.DONE, 2).fill(1).crash(Run.DONE, 2).fill(1).isDown(false).add(Run.CUT, 0, 1);
        new Run("NONE, then a number", 1, 9).crash(Run.DONE, Run.NONE).crash(Run.DONE, 1).add(Run.CUT, 0, 1);
        new Run("a number, then NONE", 1, 9).crash(Run.DONE, 1).crash(Run.DONE, Run.NONE).fill(5).isDown(false);
        new Run("a number, then 0", 1, 9).crash(Run.DONE, 5).crash(Run.DONE, 0).isDown(true);
    }

    private static void atOnce() {
        new Run("a new object", 1, 4).crash(Run.DONE, 0).isDown(true).add(Run.STATE, 0, 1).recover(0).count(0, 1);
        new Run("behind a change", 1, 4).add(1, 0, 3).crash(Run.DONE, 0).isDown(true).recover(1).amounts(3);
        new Run("in a group", 1, 4)
            .begin(Run.DONE).add(0, 0, 3).crash(Run.DONE, 0).isDown(true).recover(0).amounts(0)
            .counts(1, 1, Run.NONE, 0);
    }

    private static void notAtAll() {
        new Run("nothing was said", 1, 60).crash(Run.DONE, Run.NONE).fill(60).snapshot(2).fill(60).isDown(false);
        new Run("1 was said", 1, 60)
            .crash(Run.DONE, 1).crash(Run.DONE, Run.NONE).fill(60).snapshot(2).fill(60).isDown(false);
    }

    private static void bounds() {
        new Run("the smallest is NONE", 1, 4)
            .crash(Run.ARGUMENT, -2).crash(Run.ARGUMENT, Integer.MIN_VALUE).isDown(false).crash(Run.DONE, -1).isDown(false);
        new Run("the largest is 1000", 1, 4)
            .crash(Run.ARGUMENT, 1001).crash(Run.ARGUMENT, Integer.MAX_VALUE).isDown(false)
            .crash(Run.DONE, 1000).isDown(false);
        new Run("a wrong n leaves what was said", 1, 4)
            .crash(Run.DONE, 1).crash(Run.ARGUMENT, 1001).crash(Run.ARGUMENT, -2).add(Run.CUT, 0, 1);
        new Run("in a group", 1, 4)
            .begin(Run.DONE).crash(Run.ARGUMENT, -2).crash(Run.ARGUMENT, 1001).count(0, 2).end(0);
    }

    private static void thousand() {
        Run thousand = new Run("1000 blocks", 64, 4).crash(Run.DONE, 1000);
        for (int i = 0; i < 199; i++) {
            thousand.snapshot(5);
        }
        thousand.fill(4).isDown(false).count(999, 1).begin(Run.DONE).drop(0)
            .snapshot(Run.CUT).isDown(true).recover(4).counts(4, 1000, Run.NONE, 199);
    }

    private static void noPower() {
        new Run("whatever n is", 1, 4)
            .crash(Run.DONE, 0).crash(Run.STATE, 0).crash(Run.STATE, Run.NONE).crash(Run.STATE, 5)
            .crash(Run.STATE, 1000).isDown(true).recover(0).fill(4).isDown(false);
        new Run("by a cut", 1, 4).crash(Run.DONE, 1).add(Run.CUT, 0, 1).crash(Run.STATE, Run.NONE).isDown(true);
        new Run("not behind recovery", 1, 4).crash(Run.DONE, 0).recover(0).crash(Run.DONE, 1).add(Run.CUT, 0, 1);
    }

    private static void argumentFirst() {
        new Run("without power", 1, 4)
            .crash(Run.DONE, 0).crash(Run.ARGUMENT, -2).crash(Run.ARGUMENT, 1001).crash(Run.STATE, -1)
            .crash(Run.STATE, 1000).isDown(true);
    }
}
