import java.util.ArrayList;
import java.util.HashSet;
import java.util.List;
import java.util.Set;

/**
 * The document once more, told another way: it holds nothing but the disk, and reads each answer
 * from the snapshot and the journal's blocks, so that it shares no cause of a fault with the class.
 */
final class Model {
    private static final long TRILLION = 1_000_000_000_000L;

    /** A block of the journal: a change, or (with to below 0) the end of a group; group 0 is none. */
    private record Block(int from, int to, long v, int group) { }

    private final int accounts;
    private final int journal;
    private long[] savedAmounts;
    private int[] savedChanges;
    private List<Block> blocks = new ArrayList<>();
    private int written = 0;
    private int failsAt = -1;
    private int groups = 0;
    private boolean inGroup = false;
    private int snapshots = 0;

    Model(int accounts, int journal) {
        this.accounts = accounts < 1 ? 1 : accounts > 64 ? 64 : accounts;
        this.journal = journal < 4 ? 4 : journal > 60 ? 60 : journal;
        savedAmounts = new long[this.accounts];
        savedChanges = new int[this.accounts];
    }

    boolean isDown() {
        return written == failsAt;
    }

    int add(int account, long v) {
        argument(isAccount(account) && v >= -TRILLION && v <= TRILLION);
        state(!isDown());
        return change(new Block(-1, account, v, inGroup ? groups : 0));
    }

    int move(int from, int to, long v) {
        argument(isAccount(from) && isAccount(to) && from != to && v >= 0 && v <= TRILLION);
        state(!isDown());
        return change(new Block(from, to, v, inGroup ? groups : 0));
    }

    void begin() {
        state(!isDown() && !inGroup);
        inGroup = true;
        groups++;
    }

    int end() {
        state(!isDown() && inGroup);
        List<Block> mine = blocks.stream().filter(b -> b.group() == groups).toList();
        if (isPoor(mine)) {
            inGroup = false;
            return ReplayJournal.POOR;
        }
        return write(new Block(-1, -1, 0, groups), () -> {
            inGroup = false;
            return mine.size();
        });
    }

    int drop() {
        state(!isDown() && inGroup);
        int size = count(2);
        inGroup = false;
        return size;
    }

    int snapshot() {
        state(!isDown() && !inGroup);
        int due = 1;
        for (int i = 0; i < accounts; i += 16) {
            due++;
        }
        for (int i = 0; i < due; i++) {
            if (isDown()) {
                return ReplayJournal.CUT;
            }
            written++;
        }
        long[] amounts = amounts();
        int[] changes = changes();
        savedAmounts = amounts;
        savedChanges = changes;
        blocks = new ArrayList<>();
        snapshots++;
        return isDown() ? ReplayJournal.CUT : due;
    }

    void crash(int n) {
        argument(n >= -1 && n <= 1000);
        state(!isDown());
        failsAt = n == -1 ? -1 : written + n;
    }

    int recover() {
        failsAt = -1;
        inGroup = false;
        return happened().size();
    }

    long amount(int account) {
        argument(isAccount(account));
        state(!isDown());
        return amounts()[account];
    }

    int changes(int account) {
        argument(isAccount(account));
        state(!isDown());
        return changes()[account];
    }

    int count(int what) {
        argument(what >= 0 && what <= 3);
        state(!isDown());
        if (what == 2) {
            return inGroup ? (int) blocks.stream().filter(b -> b.group() == groups).count() : ReplayJournal.NONE;
        }
        return what == 0 ? blocks.size() : what == 1 ? written : snapshots;
    }

    private interface Then {
        int answer();
    }

    private int change(Block block) {
        if (block.group() == 0 && isPoor(List.of(block))) {
            return ReplayJournal.POOR;
        }
        return write(block, () -> block.group() == 0 ? 1 : 0);
    }

    private int write(Block block, Then then) {
        if (blocks.size() == journal) {
            return ReplayJournal.FULL;
        }
        blocks.add(block);
        written++;
        int answer = then.answer();
        return isDown() ? ReplayJournal.CUT : answer;
    }

    private List<Block> happened() {
        Set<Integer> whole = new HashSet<>(Set.of(0));
        blocks.stream().filter(b -> b.to() < 0).forEach(b -> whole.add(b.group()));
        return blocks.stream().filter(b -> b.to() >= 0 && whole.contains(b.group())).toList();
    }

    private long[] amounts() {
        long[] amounts = savedAmounts.clone();
        happened().forEach(b -> put(b, amounts));
        return amounts;
    }

    private static void put(Block block, long[] amounts) {
        amounts[block.to()] += block.v();
        if (block.from() >= 0) {
            amounts[block.from()] -= block.v();
        }
    }

    private int[] changes() {
        int[] changes = savedChanges.clone();
        for (Block block : happened()) {
            changes[block.to()]++;
            if (block.from() >= 0) {
                changes[block.from()]++;
            }
        }
        return changes;
    }

    private boolean isPoor(List<Block> more) {
        long[] amounts = amounts();
        for (Block block : more) {
            put(block, amounts);
            for (long amount : amounts) {
                if (amount < 0) {
                    return true;
                }
            }
        }
        return false;
    }

    private boolean isAccount(int account) {
        return account >= 0 && account < accounts;
    }

    private static void argument(boolean holds) {
        if (!holds) {
            throw new IllegalArgumentException();
        }
    }

    private static void state(boolean holds) {
        if (!holds) {
            throw new IllegalStateException();
        }
    }
}
