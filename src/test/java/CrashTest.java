/** Promise 8: crash. */
public final class CrashTest {
    public static void main(String[] args) {
        new Run("at once", 1, 4).crash(Run.DONE, 0).isDown(true).crash(Run.STATE, 0).crash(Run.STATE, Run.NONE);
        new Run("behind n blocks by anything", 1, 9)
            .crash(Run.DONE, 6).add(1, 0, 1).begin(Run.DONE).add(0, 0, 1).end(1).snapshot(2).isDown(false)
            .add(Run.CUT, 0, 1).isDown(true).recover(1).amount(3, 0).count(6, 1);
        new Run("whatever was said before", 1, 9)
            .crash(Run.DONE, 1).crash(Run.DONE, 2).add(1, 0, 1).crash(Run.DONE, 2).add(1, 0, 1).add(Run.CUT, 0, 1);
        new Run("not at all", 1, 9)
            .crash(Run.DONE, 1).crash(Run.DONE, Run.NONE).fill(5).isDown(false);
        new Run("the edges of n", 1, 4)
            .crash(Run.ARGUMENT, -2).crash(Run.ARGUMENT, 1001).crash(Run.ARGUMENT, Integer.MIN_VALUE)
            .crash(Run.ARGUMENT, Integer.MAX_VALUE).isDown(false).crash(Run.DONE, 1000).isDown(false);
        new Run("a wrong n leaves what was said", 1, 4)
            .crash(Run.DONE, 1).crash(Run.ARGUMENT, 1001).crash(Run.ARGUMENT, -2).add(Run.CUT, 0, 1);
        new Run("without power", 1, 4)
            .crash(Run.DONE, 0).crash(Run.ARGUMENT, -2).crash(Run.ARGUMENT, 1001).crash(Run.STATE, 5)
            .isDown(true).recover(0).add(1, 0, 1);
        Run thousand = new Run("1000 blocks", 64, 4).crash(Run.DONE, 1000);
        for (int i = 0; i < 199; i++) {
            thousand.snapshot(5);
        }
        thousand.isDown(false).snapshot(Run.CUT).isDown(true).recover(0).count(1000, 1).count(200, 3);
        Run.finish();
    }
}
