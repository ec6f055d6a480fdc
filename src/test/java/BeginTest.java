/** Promise 4: begin. */
public final class BeginTest {
    public static void main(String[] args) {
        new Run("a group begins", 2, 4)
            .count(Run.NONE, 2).begin(Run.DONE).count(0, 2).count(0, 0).count(0, 1).add(0, 0, 1).count(1, 2);
        new Run("there is one", 2, 4)
            .begin(Run.DONE).add(0, 0, 1).begin(Run.STATE).count(1, 2).end(1).begin(Run.DONE)
            .drop(0).begin(Run.DONE).add(0, 0, -9).end(Run.POOR).begin(Run.DONE).recover(1).begin(Run.DONE);
        new Run("a full journal does not hinder it", 1, 4).fill(4).begin(Run.DONE).count(0, 2);
        new Run("without power", 2, 4)
            .crash(Run.DONE, 0).begin(Run.STATE).recover(0).count(Run.NONE, 2);
        Run.finish();
    }
}
