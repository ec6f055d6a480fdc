/** Promise 13: count. */
public final class CountTest {
    public static void main(String[] args) {
        Run.sentence("what = 0 blocks of the journal used", CountTest::used);
        Run.sentence("1 blocks written so far", CountTest::written);
        Run.sentence("2 changes in the group", CountTest::inGroup);
        Run.sentence("(NONE without one)", CountTest::noGroup);
        Run.sentence("3 snapshots that were made", CountTest::snapshots);
        Run.sentence("Illegal argument", CountTest::bounds);
        Run.sentence("illegal state", CountTest::noPower);
        Run.sentence("Of several exceptions the one named first is thrown", CountTest::argumentFirst);
        Run.finish();
    }

    private static void used() {
        new Run("from none to all", 1, 4)
            .count(0, 0).fill(1).count(1, 0).begin(Run.DONE).count(1, 0).add(0, 0, 1).count(2, 0).end(1).count(3, 0)
            .fill(1).count(4, 0).add(Run.FULL, 0, 0).count(4, 0).recover(3).count(4, 0).snapshot(2).count(0, 0);
    }

    private static void written() {
        new Run("changes, ends and snapshots", 17, 9)
            .count(0, 1).add(1, 0, 1).count(1, 1).begin(Run.DONE).count(1, 1).add(0, 0, 1).move(0, 0, 1, 1).count(3, 1)
            .end(2).count(4, 1).snapshot(3).count(7, 1).recover(0).count(7, 1);
        new Run("what is refused is not written", 1, 4)
            .add(Run.POOR, 0, -1).add(Run.ARGUMENT, 1, 1).begin(Run.DONE).drop(0).count(0, 1)
            .fill(4).add(Run.FULL, 0, 1).begin(Run.DONE).add(Run.FULL, 0, 1).end(Run.FULL).count(4, 1);
        new Run("blocks of a cut snapshot are written", 64, 4)
            .crash(Run.DONE, 3).snapshot(Run.CUT).recover(0).count(3, 1);
        new Run("the block of a cut change is written", 1, 4)
            .crash(Run.DONE, 1).add(Run.CUT, 0, 1).recover(1).count(1, 1);
    }

    private static void inGroup() {
        new Run("from none on", 2, 9)
            .add(1, 0, 9).begin(Run.DONE).count(0, 2).add(0, 0, 1).count(1, 2).move(0, 0, 1, 1).count(2, 2)
            .add(Run.ARGUMENT, 2, 1).count(2, 2);
        new Run("the whole journal", 1, 60).begin(Run.DONE).fillGroup(60).count(60, 2).add(Run.FULL, 0, 1).count(60, 2);
    }

    private static void noGroup() {
        new Run("a new object, single changes", 1, 9).count(Run.NONE, 2).fill(2).count(Run.NONE, 2);
        new Run("behind an end", 1, 9).begin(Run.DONE).fillGroup(1).end(1).count(Run.NONE, 2);
        new Run("behind a poor end", 1, 9).begin(Run.DONE).add(0, 0, -1).end(Run.POOR).count(Run.NONE, 2);
        new Run("behind a drop", 1, 9).begin(Run.DONE).fillGroup(1).drop(1).count(Run.NONE, 2);
        new Run("behind recovery", 1, 9).begin(Run.DONE).fillGroup(1).recover(0).count(Run.NONE, 2);
        new Run("but not in an empty group", 1, 9).begin(Run.DONE).count(0, 2);
    }

    private static void snapshots() {
        new Run("also of an empty journal", 1, 4).count(0, 3).snapshot(2).count(1, 3).snapshot(2).count(2, 3);
        new Run("a cut one was not made", 64, 4).crash(Run.DONE, 4).snapshot(Run.CUT).recover(0).count(0, 3);
        new Run("but by its last block it was", 64, 4).crash(Run.DONE, 5).snapshot(Run.CUT).recover(0).count(1, 3);
        new Run("a refused one was not made", 1, 4).begin(Run.DONE).snapshot(Run.STATE).count(0, 3);
        new Run("they stay behind recovery", 1, 4).snapshot(2).crash(Run.DONE, 0).recover(0).count(1, 3);
    }

    private static void bounds() {
        new Run("the first and the last", 1, 4)
            .count(Run.ARGUMENT, -1).count(0, 0).count(0, 3).count(Run.ARGUMENT, 4)
            .count(Run.ARGUMENT, Integer.MIN_VALUE).count(Run.ARGUMENT, Integer.MAX_VALUE);
    }

    private static void noPower() {
        new Run("until recovery", 1, 4)
            .fill(1).crash(Run.DONE, 0).count(Run.STATE, 0).count(Run.STATE, 1).count(Run.STATE, 2).count(Run.STATE, 3)
            .recover(1).counts(1, 1, Run.NONE, 0);
    }

    private static void argumentFirst() {
        new Run("without power", 1, 4).crash(Run.DONE, 0).count(Run.ARGUMENT, -1).count(Run.ARGUMENT, 4);
    }
}
