/**
 * Keeps users' ratings of items over failures of power, tells how like items are to one another,
 * and recommends to a user the items that score best, with an account of how far its sorted lists
 * have to be read for that.
 */
public final class NeighbourScores {

    public static final int NONE = -1;
    public static final int BAD = -2;
    public static final int OFF = -3;
    public static final int FULL = -4;

    private static final int USERS = 12;
    private static final int ITEMS = 16;
    private static final int TOP_RATING = 5;
    private static final int MOST_RECORDS = 40;
    private static final int MOST_WORDS_TO_FAILURE = 100;

    private final Disk disk = new Disk();
    private final Snapshots snapshots = new Snapshots();
    private final Records records = new Records();
    private final Ratings ratings = new Ratings();
    private final Ranking ranking = new Ranking();
    private final Reading reading = new Reading();
    private int systemNumber = 0;
    private int baseNumber = 0;

    public NeighbourScores() {
    }

    public int rate(int u, int i, int r) {
        if (!disk.isPowered()) {
            return OFF;
        }
        if (!isUser(u) || !isItem(i) || r < 0 || r > TOP_RATING) {
            return BAD;
        }
        if (systemNumber - baseNumber >= MOST_RECORDS) {
            return FULL;
        }
        if (!records.writeRecord(disk, systemNumber + 1, u, i, r)) {
            return OFF;
        }
        int before = ratings.at(u, i);
        ratings.set(u, i, r);
        systemNumber++;
        return before;
    }

    public int snapshot() {
        if (!disk.isPowered()) {
            return OFF;
        }
        if (!snapshots.writeOverOlder(disk, systemNumber, ratings)) {
            return OFF;
        }
        baseNumber = systemNumber;
        return Snapshots.WORDS;
    }

    public boolean power(int n) {
        if (n < Disk.NEVER || n > MOST_WORDS_TO_FAILURE) {
            return false;
        }
        disk.failAfter(n);
        return true;
    }

    public int restart() {
        disk.switchOn();
        baseNumber = Snapshots.loadNewest(disk, ratings);
        systemNumber = baseNumber;
        int repeated = 0;
        while (repeated < MOST_RECORDS && Records.holds(disk, systemNumber + 1)) {
            systemNumber++;
            Records.repeat(disk, systemNumber, ratings);
            repeated++;
        }
        return repeated;
    }

    public boolean isOn() {
        return disk.isPowered();
    }

    public int word(int a) {
        return disk.at(a);
    }

    public boolean spoil(int a, int x) {
        return disk.put(a, x);
    }

    public int rating(int u, int i) {
        if (!disk.isPowered()) {
            return OFF;
        }
        if (!isUser(u) || !isItem(i)) {
            return BAD;
        }
        return ratings.at(u, i);
    }

    public int weight(int i, int j) {
        if (!disk.isPowered()) {
            return OFF;
        }
        if (!isItem(i) || !isItem(j)) {
            return BAD;
        }
        return ratings.weightOf(i, j);
    }

    public int neighbour(int j, int p) {
        if (!disk.isPowered()) {
            return OFF;
        }
        if (!isItem(j)) {
            return BAD;
        }
        ranking.rankNeighbours(ratings, j);
        return ranking.itemAt(p);
    }

    public long score(int u, int i) {
        if (!disk.isPowered()) {
            return OFF;
        }
        if (!isUser(u) || !isItem(i)) {
            return BAD;
        }
        return ratings.scoreOf(u, i);
    }

    public int best(int u, int p) {
        if (!disk.isPowered()) {
            return OFF;
        }
        if (!isUser(u)) {
            return BAD;
        }
        ranking.rankBest(ratings, u);
        return ranking.itemAt(p);
    }

    public int reads(int u, int k) {
        if (!disk.isPowered()) {
            return OFF;
        }
        if (!isUser(u) || k < 1 || k > ITEMS) {
            return BAD;
        }
        return reading.countEntries(ratings, u, k);
    }

    public long share(int u, int i, int j) {
        if (!disk.isPowered()) {
            return OFF;
        }
        if (!isUser(u) || !isItem(i) || !isItem(j)) {
            return BAD;
        }
        return ratings.shareOf(u, i, j);
    }

    public int number(int how) {
        if (!disk.isPowered()) {
            return OFF;
        }
        switch (how) {
            case 0:
                return systemNumber;
            case 1:
                return baseNumber;
            case 2:
                return ratings.countRated();
            default:
                return BAD;
        }
    }

    private static boolean isUser(int u) {
        return u >= 0 && u < USERS;
    }

    private static boolean isItem(int i) {
        return i >= 0 && i < ITEMS;
    }

    /** The words that outlast a failure, and the power that writing them needs. */
    private static final class Disk {
        static final int NEVER = -1;

        private static final int WORDS = 172;

        private final int[] words = new int[WORDS];
        private boolean powered = true;
        private int wordsToFailure = NEVER;

        Disk() {
            int place = Snapshots.WORDS - 1;
            // Not over the words themselves, which are 0 as well: a constructor hands on nothing of its object.
            words[place] = checkOf(new int[place], 0, place, Snapshots.SEED);
        }

        boolean isPowered() {
            return powered;
        }

        void failAfter(int n) {
            wordsToFailure = n;
        }

        void switchOn() {
            powered = true;
            wordsToFailure = NEVER;
        }

        int at(int a) {
            return has(a) ? words[a] : 0;
        }

        boolean put(int a, int x) {
            if (!has(a)) {
                return false;
            }
            words[a] = x;
            return true;
        }

        boolean writeRow(int start, int[] row) {
            for (int k = 0; k < row.length; k++) {
                if (!writeWord(start + k, row[k])) {
                    return false;
                }
            }
            return true;
        }

        boolean isCheckRight(int start, int count, int seed) {
            return at(start + count) == checkOf(words, start, count, seed);
        }

        static int checkOf(int[] row, int start, int count, int seed) {
            int h = seed;
            for (int k = 0; k < count; k++) {
                h = mix(h, row[start + k]);
            }
            return h | 1;
        }

        private boolean has(int a) {
            return a >= 0 && a < WORDS;
        }

        private boolean writeWord(int a, int x) {
            if (wordsToFailure == 0) {
                powered = false;
                return false;
            }
            if (wordsToFailure > 0) {
                wordsToFailure--;
            }
            return put(a, x);
        }

        private static int mix(int h, int x) {
            int y = (h ^ x) * 668265263 + 374761393;
            return y ^ (y >>> 15);
        }
    }

    /** The two snapshots at the disk's start. */
    private static final class Snapshots {
        static final int WORDS = 26;
        static final int SEED = 1;

        private static final int MOST_NUMBER = 1000000000;
        private static final int HALVES = 2;

        private final int[] row = new int[WORDS];

        /** Answers whether all of it was written. */
        boolean writeOverOlder(Disk disk, int number, Ratings ratings) {
            row[0] = number;
            for (int u = 0; u < USERS; u++) {
                for (int half = 0; half < HALVES; half++) {
                    row[placeOf(u, half)] = ratings.packed(u, half);
                }
            }
            row[WORDS - 1] = Disk.checkOf(row, 0, WORDS - 1, SEED);
            // The one that a restart would take stays whole, whatever becomes of this one.
            int which = newest(disk) == 1 ? 0 : 1;
            return disk.writeRow(startOf(which), row);
        }

        /** Answers the number of the snapshot taken, 0 when there is no good one. */
        static int loadNewest(Disk disk, Ratings ratings) {
            int which = newest(disk);
            if (which == NONE) {
                ratings.clear();
                return 0;
            }
            int start = startOf(which);
            for (int u = 0; u < USERS; u++) {
                for (int half = 0; half < HALVES; half++) {
                    ratings.unpack(u, half, disk.at(start + placeOf(u, half)));
                }
            }
            return disk.at(start);
        }

        private static int newest(Disk disk) {
            boolean first = isGood(disk, 0);
            boolean second = isGood(disk, 1);
            if (first && second) {
                return disk.at(startOf(1)) > disk.at(startOf(0)) ? 1 : 0;
            }
            if (first) {
                return 0;
            }
            return second ? 1 : NONE;
        }

        private static boolean isGood(Disk disk, int which) {
            int start = startOf(which);
            int number = disk.at(start);
            return number >= 0 && number <= MOST_NUMBER && disk.isCheckRight(start, WORDS - 1, SEED);
        }

        private static int startOf(int which) {
            return WORDS * which;
        }

        private static int placeOf(int u, int half) {
            return HALVES * u + 1 + half;
        }
    }

    /** The ring of records behind the snapshots. */
    private static final class Records {
        private static final int START = 2 * Snapshots.WORDS;
        private static final int WORDS = 3;
        private static final int SEED = 2;

        private final int[] row = new int[WORDS];

        /** Answers whether all of it was written. */
        boolean writeRecord(Disk disk, int n, int u, int i, int r) {
            row[0] = n;
            row[1] = 1000 * u + 10 * i + r;
            row[2] = Disk.checkOf(row, 0, WORDS - 1, SEED);
            return disk.writeRow(startOf(n), row);
        }

        static boolean holds(Disk disk, int n) {
            int start = startOf(n);
            return disk.at(start) == n
                    && disk.isCheckRight(start, WORDS - 1, SEED)
                    && namesRating(disk.at(start + 1));
        }

        /** Sets again what the record says; only for one that holds() has found. */
        static void repeat(Disk disk, int n, Ratings ratings) {
            int content = disk.at(startOf(n) + 1);
            ratings.set(userIn(content), itemIn(content), ratingIn(content));
        }

        private static boolean namesRating(int content) {
            return content >= 0
                    && isUser(userIn(content))
                    && isItem(itemIn(content))
                    && ratingIn(content) <= TOP_RATING;
        }

        private static int userIn(int content) {
            return content / 1000;
        }

        private static int itemIn(int content) {
            return content % 1000 / 10;
        }

        private static int ratingIn(int content) {
            return content % 10;
        }

        private static int startOf(int n) {
            return START + WORDS * Math.floorMod(n, MOST_RECORDS);
        }
    }

    /** The ratings that stand, and what follows from them. */
    private static final class Ratings {
        private static final long WHOLE_WEIGHT = 1048576;
        private static final int HALF = ITEMS / 2;
        private static final int BITS = 4;

        private final int[][] table = new int[USERS][ITEMS];
        private final int[][] dots = new int[ITEMS][ITEMS];

        int at(int u, int i) {
            return table[u][i];
        }

        /** Keeps the dots up with every change, so that no weight has to go over all users. */
        void set(int u, int i, int r) {
            int[] rated = table[u];
            int before = rated[i];
            for (int j = 0; j < ITEMS; j++) {
                if (j != i) {
                    dots[i][j] += (r - before) * rated[j];
                    dots[j][i] = dots[i][j];
                }
            }
            dots[i][i] += r * r - before * before;
            rated[i] = r;
        }

        void clear() {
            for (int u = 0; u < USERS; u++) {
                for (int i = 0; i < ITEMS; i++) {
                    set(u, i, 0);
                }
            }
        }

        int countRated() {
            int count = 0;
            for (int u = 0; u < USERS; u++) {
                for (int i = 0; i < ITEMS; i++) {
                    if (table[u][i] != 0) {
                        count++;
                    }
                }
            }
            return count;
        }

        int weightOf(int i, int j) {
            long dot = dots[i][j];
            long squares = (long) dots[i][i] * dots[j][j];
            if (i == j || squares == 0) {
                return 0;
            }
            return (int) (WHOLE_WEIGHT * dot * dot / squares);
        }

        long shareOf(int u, int i, int j) {
            return (long) weightOf(i, j) * table[u][j];
        }

        long scoreOf(int u, int i) {
            long sum = 0;
            for (int j = 0; j < ITEMS; j++) {
                sum += shareOf(u, i, j);
            }
            return sum;
        }

        int packed(int u, int half) {
            int sum = 0;
            for (int i = 0; i < HALF; i++) {
                sum += table[u][HALF * half + i] << (BITS * i);
            }
            return sum;
        }

        void unpack(int u, int half, int packed) {
            for (int i = 0; i < HALF; i++) {
                int r = (packed >>> (BITS * i)) & 15;
                set(u, HALF * half + i, r > TOP_RATING ? 0 : r);
            }
        }
    }

    /** Items with values greater than 0, the greater value first, of equal ones the one added first. */
    private static final class Ranking {
        private final int[] items = new int[ITEMS];
        private final long[] values = new long[ITEMS];
        private int size = 0;

        void clear() {
            size = 0;
        }

        void rankNeighbours(Ratings ratings, int j) {
            clear();
            for (int i = 0; i < ITEMS; i++) {
                add(i, ratings.weightOf(i, j));
            }
        }

        void rankBest(Ratings ratings, int u) {
            clear();
            for (int i = 0; i < ITEMS; i++) {
                if (ratings.at(u, i) == 0) {
                    add(i, ratings.scoreOf(u, i));
                }
            }
        }

        boolean has(int p) {
            return p >= 0 && p < size;
        }

        int itemAt(int p) {
            return has(p) ? items[p] : NONE;
        }

        long valueAt(int p) {
            return has(p) ? values[p] : 0;
        }

        private void add(int item, long value) {
            if (value <= 0 || size >= ITEMS) {
                return;
            }
            int place = size;
            while (place > 0 && values[place - 1] < value) {
                items[place] = items[place - 1];
                values[place] = values[place - 1];
                place--;
            }
            items[place] = item;
            values[place] = value;
            size++;
        }
    }

    /** Reads the lists of the items that a user has rated, round by round. */
    private static final class Reading {
        private final Ranking[] lists = new Ranking[ITEMS];
        private final long[] found = new long[ITEMS];
        private int entries = 0;

        Reading() {
            for (int j = 0; j < ITEMS; j++) {
                lists[j] = new Ranking();
            }
        }

        int countEntries(Ratings ratings, int u, int k) {
            begin(ratings, u);
            for (int p = 0; p < ITEMS && isEntryLeft(p); p++) {
                long limit = readRound(ratings, u, p);
                if (countFoundAbove(limit) >= k) {
                    break;
                }
            }
            return entries;
        }

        private void begin(Ratings ratings, int u) {
            entries = 0;
            for (int j = 0; j < ITEMS; j++) {
                found[j] = 0;
                lists[j].clear();
                if (ratings.at(u, j) != 0) {
                    lists[j].rankNeighbours(ratings, j);
                }
            }
        }

        private boolean isEntryLeft(int p) {
            for (int j = 0; j < ITEMS; j++) {
                if (lists[j].has(p)) {
                    return true;
                }
            }
            return false;
        }

        /** Answers the limit behind the round. */
        private long readRound(Ratings ratings, int u, int p) {
            long limit = 0;
            for (int j = 0; j < ITEMS; j++) {
                if (lists[j].has(p)) {
                    entries++;
                    limit += ratings.at(u, j) * lists[j].valueAt(p);
                    find(ratings, u, lists[j].itemAt(p));
                }
            }
            return limit;
        }

        /** Scores only what the user has not rated: the rest never counts, and stays at 0. */
        private void find(Ratings ratings, int u, int i) {
            if (ratings.at(u, i) == 0 && found[i] == 0) {
                found[i] = ratings.scoreOf(u, i);
            }
        }

        private int countFoundAbove(long limit) {
            int count = 0;
            for (int i = 0; i < ITEMS; i++) {
                if (found[i] > limit) {
                    count++;
                }
            }
            return count;
        }
    }
}
