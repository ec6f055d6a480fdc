/** Promise 6: drop. */
public final class DropTest {
    public static void main(String[] args) {
        Run.sentence("The group is dropped", DropTest::dropped);
        Run.sentence("(its blocks stay used)", DropTest::stayUsed);
        Run.sentence("how many changes it had", DropTest::howMany);
        Run.sentence("Terms: or not at all, if the group is dropped", DropTest::notBroughtBack);
        Run.sentence("Illegal state: there is no group", DropTest::noGroup);
        Run.sentence("Illegal state: the power failed", DropTest::noPower);
        Run.finish();
    }

    private static void dropped() {
        new Run("nothing of it happens", 2, 9)
            .add(1, 0, 5).begin(Run.DONE).add(0, 0, 1).move(0, 0, 1, 2).drop(2)
            .amounts(5, 0).changed(1, 0).count(Run.NONE, 2).recover(1).amounts(5, 0).changed(1, 0);
        new Run("behind it a change happens at once", 1, 9)
            .begin(Run.DONE).add(0, 0, 1).drop(1).add(1, 0, 2).amounts(2).add(Run.POOR, 0, -3);
        new Run("nothing is written, so the power stays", 1, 4)
            .begin(Run.DONE).crash(Run.DONE, 1).drop(0).isDown(false).count(0, 1).add(Run.CUT, 0, 1);
    }

    private static void stayUsed() {
        new Run("also behind recovery, until a snapshot", 1, 9)
            .begin(Run.DONE).fillGroup(3).drop(3).counts(3, 3, Run.NONE, 0).recover(0).counts(3, 3, Run.NONE, 0)
            .snapshot(2).counts(0, 5, Run.NONE, 1);
        new Run("a journal full of them", 1, 4)
            .begin(Run.DONE).fillGroup(4).drop(4).add(Run.FULL, 0, 1).counts(4, 4, Run.NONE, 0)
            .recover(0).add(Run.FULL, 0, 1).snapshot(2).add(1, 0, 1);
    }

    private static void howMany() {
        new Run("none", 1, 4).begin(Run.DONE).drop(0).counts(0, 0, Run.NONE, 0);
        new Run("one", 1, 4).add(1, 0, 1).begin(Run.DONE).fillGroup(1).drop(1).counts(2, 2, Run.NONE, 0);
        new Run("the whole journal", 1, 60).begin(Run.DONE).fillGroup(60).add(Run.FULL, 0, 1).drop(60);
        new Run("not those of the group before", 1, 9)
            .begin(Run.DONE).fillGroup(3).drop(3).begin(Run.DONE).fillGroup(2).drop(2).begin(Run.DONE).drop(0);
    }

    private static void notBroughtBack() {
        new Run("by a later group", 3, 9)
            .begin(Run.DONE).add(0, 0, 1).add(0, 1, 1).drop(2).begin(Run.DONE).add(0, 2, 7).end(1)
            .amounts(0, 0, 7).recover(1).amounts(0, 0, 7).changed(0, 0, 1);
        new Run("by an empty group", 1, 9)
            .begin(Run.DONE).add(0, 0, 1).drop(1).begin(Run.DONE).end(0).amounts(0).recover(0).amounts(0);
        new Run("by a single change", 2, 9)
            .begin(Run.DONE).add(0, 0, 1).drop(1).add(1, 1, 2).recover(1).amounts(0, 2);
        new Run("by a snapshot", 1, 9)
            .begin(Run.DONE).add(0, 0, 1).drop(1).snapshot(2).amounts(0).recover(0).amounts(0).changed(0);
    }

    private static void noGroup() {
        new Run("a new object", 1, 9).drop(Run.STATE).counts(0, 0, Run.NONE, 0);
        new Run("behind a drop", 1, 9).begin(Run.DONE).drop(0).drop(Run.STATE);
        new Run("behind an end", 1, 9).begin(Run.DONE).add(0, 0, 1).end(1).drop(Run.STATE).amounts(1).recover(1);
        new Run("behind a poor end", 1, 9).begin(Run.DONE).add(0, 0, -1).end(Run.POOR).drop(Run.STATE);
        new Run("behind recovery", 1, 9).begin(Run.DONE).add(0, 0, 1).recover(0).drop(Run.STATE);
        new Run("behind single changes", 1, 9).add(1, 0, 1).drop(Run.STATE).amounts(1).count(1, 0);
        new Run("but not behind a full end", 1, 4).begin(Run.DONE).fillGroup(4).end(Run.FULL).drop(4).drop(Run.STATE);
    }

    private static void noPower() {
        new Run("with a group", 1, 4).begin(Run.DONE).crash(Run.DONE, 0).drop(Run.STATE).recover(0).drop(Run.STATE);
        new Run("without a group", 1, 4).crash(Run.DONE, 0).drop(Run.STATE).recover(0).drop(Run.STATE);
    }
}
