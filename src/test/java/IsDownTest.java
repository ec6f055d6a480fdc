/** Promise 10: isDown. */
public final class IsDownTest {
    public static void main(String[] args) {
        new Run("in all states", 1, 9)
            .isDown(false).add(1, 0, 1).isDown(false).begin(Run.DONE).isDown(false).crash(Run.DONE, 2).isDown(false)
            .add(0, 0, 1).isDown(false).end(Run.CUT).isDown(true).isDown(true).add(Run.STATE, 0, 1).isDown(true)
            .crash(Run.STATE, Run.NONE).isDown(true).recover(2).isDown(false).recover(2).isDown(false);
        new Run("at once", 1, 4).crash(Run.DONE, 0).isDown(true).recover(0).isDown(false);
        new Run("by a snapshot", 1, 4).crash(Run.DONE, 1).snapshot(Run.CUT).isDown(true).recover(0).isDown(false);
        Run.finish();
    }
}
