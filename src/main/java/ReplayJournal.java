/**
 * Accounts on a disk that may lose its power at any block: each change is written to a journal
 * before it happens, snapshots empty the journal, and recovery replays it on the last snapshot.
 */
public final class ReplayJournal {
    public static final int NONE = -1;
    public static final int FULL = -2;
    public static final int CUT = -3;
    public static final int POOR = -4;

    private static final int FEWEST_ACCOUNTS = 1;
    private static final int MOST_ACCOUNTS = 64;
    private static final int SHORTEST_JOURNAL = 4;
    private static final int LONGEST_JOURNAL = 60;
    private static final int ACCOUNTS_IN_BLOCK = 16;
    private static final int LATEST_CRASH = 1000;
    private static final long LARGEST_AMOUNT = 1000000000000L;

    private final Accounts live;
    private final Accounts saved;
    private final Accounts trial;
    private final Journal journal;
    private final Disk disk;
    /** How many changes the group has; NONE while there is no group. */
    private int groupSize;
    private int snapshotsMade;

    public ReplayJournal(int accounts, int journal) {
        int size = Math.max(FEWEST_ACCOUNTS, Math.min(MOST_ACCOUNTS, accounts));
        int blocks = Math.max(SHORTEST_JOURNAL, Math.min(LONGEST_JOURNAL, journal));
        this.live = new Accounts(size);
        this.saved = new Accounts(size);
        this.trial = new Accounts(size);
        this.journal = new Journal(blocks);
        this.disk = new Disk();
        this.groupSize = NONE;
        this.snapshotsMade = 0;
    }

    public int add(int account, long v) throws IllegalArgumentException, IllegalStateException {
        requireAccount(account);
        requireBounds(v, -LARGEST_AMOUNT, LARGEST_AMOUNT);
        requirePower();
        return change(NONE, account, v);
    }

    public int move(int from, int to, long v) throws IllegalArgumentException, IllegalStateException {
        requireAccount(from);
        requireAccount(to);
        requireBounds(v, 0, LARGEST_AMOUNT);
        if (from == to) {
            throw new IllegalArgumentException("a move needs two accounts");
        }
        requirePower();
        return change(from, to, v);
    }

    public void begin() throws IllegalStateException {
        requirePower();
        requireNoGroup();
        groupSize = 0;
    }

    public int end() throws IllegalStateException {
        requirePower();
        requireGroup();
        trial.copyFrom(live);
        if (!journal.tryLast(groupSize, trial)) {
            groupSize = NONE;
            return POOR;
        }
        if (!journal.writeEnd(groupSize)) {
            return FULL;
        }
        disk.writeBlock();
        live.copyFrom(trial);
        int happened = groupSize;
        groupSize = NONE;
        return disk.isOff() ? CUT : happened;
    }

    public int drop() throws IllegalStateException {
        requirePower();
        requireGroup();
        int dropped = groupSize;
        groupSize = NONE;
        return dropped;
    }

    public int snapshot() throws IllegalStateException {
        requirePower();
        requireNoGroup();
        int blocks = snapshotBlocks();
        if (disk.writeBlocks(blocks) == blocks) {
            saved.copyFrom(live);
            journal.clear();
            snapshotsMade++;
        }
        return disk.isOff() ? CUT : blocks;
    }

    public void crash(int n) throws IllegalArgumentException, IllegalStateException {
        requireBounds(n, NONE, LATEST_CRASH);
        requirePower();
        disk.failAfter(n);
    }

    public int recover() {
        disk.restart();
        groupSize = NONE;
        live.copyFrom(saved);
        return journal.replay(live);
    }

    public boolean isDown() {
        return disk.isOff();
    }

    public long amount(int account) throws IllegalArgumentException, IllegalStateException {
        requireAccount(account);
        requirePower();
        return live.amountOf(account);
    }

    public int changes(int account) throws IllegalArgumentException, IllegalStateException {
        requireAccount(account);
        requirePower();
        return live.changesOf(account);
    }

    public int count(int what) throws IllegalArgumentException, IllegalStateException {
        requireBounds(what, 0, 3);
        requirePower();
        switch (what) {
            case 0:
                return journal.usedBlocks();
            case 1:
                return disk.writtenBlocks();
            case 2:
                return groupSize;
            default:
                return snapshotsMade;
        }
    }

    /** An addition has no account to take from: its from is NONE. */
    private int change(int from, int to, long v) {
        return groupSize == NONE ? changeNow(from, to, v) : changeInGroup(from, to, v);
    }

    private int changeNow(int from, int to, long v) {
        if (live.wouldOverdraw(from, to, v)) {
            return POOR;
        }
        if (!journal.writeChange(from, to, v, true)) {
            return FULL;
        }
        disk.writeBlock();
        live.apply(from, to, v);
        return disk.isOff() ? CUT : 1;
    }

    private int changeInGroup(int from, int to, long v) {
        if (!journal.writeChange(from, to, v, false)) {
            return FULL;
        }
        disk.writeBlock();
        groupSize++;
        return disk.isOff() ? CUT : 0;
    }

    private int snapshotBlocks() {
        return (live.size() + ACCOUNTS_IN_BLOCK - 1) / ACCOUNTS_IN_BLOCK + 1;
    }

    private void requireAccount(int account) {
        if (!live.has(account)) {
            throw new IllegalArgumentException("there is no such account");
        }
    }

    private static void requireBounds(long v, long low, long high) {
        if (v < low || v > high) {
            throw new IllegalArgumentException("a number is out of its bounds");
        }
    }

    private void requirePower() {
        if (disk.isOff()) {
            throw new IllegalStateException("the power failed");
        }
    }

    private void requireGroup() {
        if (groupSize == NONE) {
            throw new IllegalStateException("there is no group");
        }
    }

    private void requireNoGroup() {
        if (groupSize != NONE) {
            throw new IllegalStateException("there is a group");
        }
    }

    /** All accounts at one moment: what each has, and how often it was changed. */
    private static final class Accounts {
        private final long[] amounts;
        private final int[] changed;

        Accounts(int size) {
            amounts = new long[size];
            changed = new int[size];
        }

        int size() {
            return amounts.length;
        }

        boolean has(int account) {
            return account >= 0 && account < amounts.length;
        }

        long amountOf(int account) {
            return has(account) ? amounts[account] : 0;
        }

        int changesOf(int account) {
            return has(account) ? changed[account] : 0;
        }

        boolean wouldOverdraw(int from, int to, long v) {
            return has(from) && amounts[from] - v < 0 || has(to) && amounts[to] + v < 0;
        }

        void apply(int from, int to, long v) {
            changeOne(from, -v);
            changeOne(to, v);
        }

        private void changeOne(int account, long v) {
            if (has(account)) {
                amounts[account] += v;
                changed[account]++;
            }
        }

        void copyFrom(Accounts other) {
            int both = Math.min(amounts.length, other.amounts.length);
            for (int i = 0; i < both; i++) {
                amounts[i] = other.amounts[i];
                changed[i] = other.changed[i];
            }
        }
    }

    /** The journal's blocks. A block is firm if recovery shall make its change happen again. */
    private static final class Journal {
        private final int[] froms;
        private final int[] tos;
        private final long[] values;
        private final boolean[] firm;
        private int used;

        Journal(int blocks) {
            froms = new int[blocks];
            tos = new int[blocks];
            values = new long[blocks];
            firm = new boolean[blocks];
            used = 0;
        }

        int usedBlocks() {
            return used;
        }

        void clear() {
            used = 0;
        }

        /** Answers false, and writes nothing, if no block is left. */
        boolean writeChange(int from, int to, long v, boolean isFirm) {
            if (used >= firm.length) {
                return false;
            }
            froms[used] = from;
            tos[used] = to;
            values[used] = v;
            firm[used] = isFirm;
            used++;
            return true;
        }

        /**
         * Answers false, and writes nothing, if no block is left. Nothing else is written while
         * there is a group, so its changes are the last blocks; those of dropped groups before
         * them are never made firm.
         */
        boolean writeEnd(int groupSize) {
            if (used >= firm.length) {
                return false;
            }
            for (int i = firstOfLast(groupSize); i < used; i++) {
                firm[i] = true;
            }
            firm[used] = false;
            used++;
            return true;
        }

        /** Stops and answers false at the first change that would leave an account below 0. */
        boolean tryLast(int groupSize, Accounts accounts) {
            for (int i = firstOfLast(groupSize); i < used; i++) {
                if (accounts.wouldOverdraw(froms[i], tos[i], values[i])) {
                    return false;
                }
                accounts.apply(froms[i], tos[i], values[i]);
            }
            return true;
        }

        int replay(Accounts accounts) {
            int happened = 0;
            for (int i = 0; i < used; i++) {
                if (firm[i]) {
                    accounts.apply(froms[i], tos[i], values[i]);
                    happened++;
                }
            }
            return happened;
        }

        private int firstOfLast(int groupSize) {
            return Math.max(0, used - groupSize);
        }
    }

    /** Counts the blocks that are written, and loses its power when it was told to. */
    private static final class Disk {
        private int written;
        /** How many blocks more can be written; NONE while the power will not fail. */
        private int left;

        Disk() {
            written = 0;
            left = NONE;
        }

        boolean isOff() {
            return left == 0;
        }

        int writtenBlocks() {
            return written;
        }

        void failAfter(int n) {
            left = n;
        }

        void restart() {
            left = NONE;
        }

        void writeBlock() {
            written++;
            if (left > 0) {
                left--;
            }
        }

        /** Answers how many were written before the power failed, or all of them. */
        int writeBlocks(int n) {
            int done = 0;
            while (done < n && !isOff()) {
                writeBlock();
                done++;
            }
            return done;
        }
    }
}
