import java.util.ArrayList;
import java.util.List;
import java.util.Random;

/**
 * Runs long mixed rows of calls, the same ones each time, on the class and on a second writing of the
 * document that works everything out anew at each call, and compares every answer.
 */
public final class ModelTest {

    private static final int RUNS = 2000;
    private static final int CALLS = 512;
    private static final int MOST_TOLD = 20;

    private static int wrong = 0;

    public static void main(String[] args) {
        Tally tally = new Tally();
        for (int run = 0; run < RUNS && wrong < MOST_TOLD; run++) {
            new Run(run, tally).go();
        }
        tally.demand();
        System.out.println(wrong == 0 ? "all answers are as due" : wrong + " answers are not as due");
        if (wrong != 0) {
            System.exit(1);
        }
    }

    /** Counts the rare cases, so that a change of the mix of calls can't leave them out unseen. */
    private static final class Tally {
        int full;
        int offInRate;
        int offInSnapshot;
        int fromFirst;
        int fromSecond;
        int fromNone;
        int manyRecords;
        int earlyEnds;
        int longBests;

        void demand() {
            int[] counts = {full, offInRate, offInSnapshot, fromFirst, fromSecond, fromNone, manyRecords,
                earlyEnds, longBests};
            for (int k = 0; k < counts.length; k++) {
                if (counts[k] < 50) {
                    wrong++;
                    System.out.println("rare case " + k + " came only " + counts[k] + " times");
                }
            }
        }
    }

    private static final class Run {
        private final int run;
        private final Tally tally;
        private final Random random;
        private final int mix;
        private final int users;
        private final int items;
        private final NeighbourScores program = new NeighbourScores();
        private final Model model = new Model();
        private int calls = 0;

        Run(int run, Tally tally) {
            this.run = run;
            this.tally = tally;
            random = new Random(7919L * run + 1);
            mix = run % 4;
            users = run % 3 == 0 ? 12 : 2 + random.nextInt(11);
            items = run % 3 == 1 ? 16 : 2 + random.nextInt(15);
        }

        void go() {
            while (calls < CALLS - 40 && wrong < MOST_TOLD) {
                step();
            }
            int first = random.nextInt(173) - 1;
            while (calls < CALLS && wrong < MOST_TOLD) {
                word((first + calls) % 174 - 1);
            }
        }

        private void step() {
            int kind = random.nextInt(100);
            if (kind < (mix == 0 ? 25 : 40)) {
                rate();
            } else if (kind < 44) {
                snapshot();
            } else if (kind < (mix == 1 ? 44 : 47)) {
                power();
            } else if (kind < 50) {
                restart();
            } else if (kind < (mix == 2 ? 60 : 51)) {
                spoil();
            } else if (kind < 53) {
                lay();
            } else {
                ask();
            }
        }

        private int user() {
            return random.nextInt(60) == 0 ? random.nextInt(40) - 20 : random.nextInt(users);
        }

        private int item() {
            return random.nextInt(60) == 0 ? random.nextInt(60) - 30 : random.nextInt(items);
        }

        private void rate() {
            int u = user();
            int i = item();
            int r = random.nextInt(60) == 0 ? random.nextInt(20) - 8 : random.nextInt(6);
            int want = model.rate(u, i, r);
            same("rate(" + u + ", " + i + ", " + r + ")", program.rate(u, i, r), want);
            if (want == -4) {
                tally.full++;
                if (random.nextInt(2) == 0) {
                    snapshot();
                }
            }
            if (want == -3) {
                tally.offInRate++;
                maybeRestart();
            }
        }

        private void snapshot() {
            if (random.nextInt(4) == 0) {
                power();
            }
            int want = model.snapshot();
            same("snapshot()", program.snapshot(), want);
            if (want == -3) {
                tally.offInSnapshot++;
                maybeRestart();
            }
        }

        private void maybeRestart() {
            if (random.nextInt(3) > 0) {
                restart();
            }
        }

        private void power() {
            int n = random.nextInt(3) == 0 ? random.nextInt(110) - 4 : random.nextInt(30) - 1;
            same("power(" + n + ")", program.power(n) ? 1 : 0, model.power(n) ? 1 : 0);
        }

        private void restart() {
            int want = model.restart();
            same("restart()", program.restart(), want);
            tally.manyRecords += want >= 10 ? 1 : 0;
            tally.fromFirst += model.taken == 0 ? 1 : 0;
            tally.fromSecond += model.taken == 1 ? 1 : 0;
            tally.fromNone += model.taken == -1 ? 1 : 0;
        }

        private void spoil() {
            spoil(random.nextInt(190) - 9, random.nextInt(3) == 0 ? random.nextInt() : random.nextInt(60) - 10);
        }

        private void spoil(int a, int x) {
            same("spoil(" + a + ", " + x + ")", program.spoil(a, x) ? 1 : 0, model.spoil(a, x) ? 1 : 0);
        }

        /** Makes a snapshot or a record that has a right check, whatever else it says. */
        private void lay() {
            if (random.nextInt(2) == 0) {
                int start = 26 * random.nextInt(2);
                int[] numbers = {-1, 0, 1000000000, 1000000001, model.number, model.base + random.nextInt(9) - 4};
                spoil(start, numbers[random.nextInt(numbers.length)]);
                for (int k = random.nextInt(4); k > 0; k--) {
                    spoil(start + 1 + random.nextInt(24), random.nextInt());
                }
                spoil(start + 25, Model.checkOf(1, model.disk, start, 25));
            } else {
                int n = model.number + 1 + random.nextInt(random.nextInt(2) == 0 ? 1 : 60) % 50;
                int start = 52 + 3 * (n % 40);
                int content = 1000 * (random.nextInt(14) - 1) + 10 * (random.nextInt(18) - 1) + random.nextInt(8) - 1;
                spoil(start, n);
                spoil(start + 1, content);
                spoil(start + 2, Model.checkOf(2, model.disk, start, 2));
            }
        }

        private void word(int a) {
            same("word(" + a + ")", program.word(a), model.word(a));
        }

        private void ask() {
            int u = user();
            int i = item();
            int j = item();
            int p = random.nextInt(items + 2) - 1;
            switch (random.nextInt(11)) {
                case 0:
                    same("isOn()", program.isOn() ? 1 : 0, model.on ? 1 : 0);
                    break;
                case 1:
                    word(random.nextInt(180) - 4);
                    break;
                case 2:
                    same("rating(" + u + ", " + i + ")", program.rating(u, i), model.rating(u, i));
                    break;
                case 3:
                    same("weight(" + i + ", " + j + ")", program.weight(i, j), model.weight(i, j));
                    break;
                case 4:
                    same("neighbour(" + j + ", " + p + ")", program.neighbour(j, p), model.neighbour(j, p));
                    break;
                case 5:
                    same("score(" + u + ", " + i + ")", program.score(u, i), model.score(u, i));
                    break;
                case 6:
                    int best = model.best(u, p);
                    same("best(" + u + ", " + p + ")", program.best(u, p), best);
                    tally.longBests += p > 3 && best >= 0 ? 1 : 0;
                    break;
                case 7:
                    same("share(" + u + ", " + i + ", " + j + ")", program.share(u, i, j), model.share(u, i, j));
                    break;
                case 8:
                    int how = random.nextInt(5) - 1;
                    same("number(" + how + ")", program.number(how), model.number(how));
                    break;
                default:
                    reads(u, random.nextInt(3) == 0 ? random.nextInt(19) - 1 : 1 + random.nextInt(4));
                    break;
            }
        }

        private void reads(int u, int k) {
            int want = model.reads(u, k);
            same("reads(" + u + ", " + k + ")", program.reads(u, k), want);
            tally.earlyEnds += want > 3 && want < model.reads(u, 16) ? 1 : 0;
        }

        private void same(String call, long got, long want) {
            calls++;
            if (got != want) {
                wrong++;
                System.out.println("run " + run + ", call " + calls + ": " + call + " answered " + got + ", due is " + want);
            }
        }
    }

    /** The document written down once more, without regard to speed or room. */
    private static final class Model {
        int[] disk = new int[172];
        int[][] r = new int[12][16];
        int number = 0;
        int base = 0;
        boolean on = true;
        int failure = -1;
        int taken = -2;

        Model() {
            disk[25] = checkOf(1, disk, 0, 25);
        }

        static int mix(int h, int x) {
            int y = (h ^ x) * 668265263 + 374761393;
            return y ^ (y >>> 15);
        }

        static int checkOf(int seed, int[] words, int start, int count) {
            int h = seed;
            for (int k = 0; k < count; k++) {
                h = mix(h, words[start + k]);
            }
            return h | 1;
        }

        static boolean within(int n, int end) {
            return 0 <= n && n < end;
        }

        boolean write(int start, int... words) {
            for (int k = 0; k < words.length; k++) {
                if (failure == 0) {
                    on = false;
                    return false;
                }
                failure = failure < 0 ? failure : failure - 1;
                disk[start + k] = words[k];
            }
            return true;
        }

        int rate(int u, int i, int value) {
            if (!on) {
                return -3;
            }
            if (!within(u, 12) || !within(i, 16) || !within(value, 6)) {
                return -2;
            }
            if (number == base + 40) {
                return -4;
            }
            int[] words = {number + 1, 1000 * u + 10 * i + value, 0};
            words[2] = checkOf(2, words, 0, 2);
            if (!write(52 + 3 * ((number + 1) % 40), words)) {
                return -3;
            }
            number++;
            int before = r[u][i];
            r[u][i] = value;
            return before;
        }

        boolean good(int start) {
            return disk[start + 25] == checkOf(1, disk, start, 25) && disk[start] >= 0 && disk[start] <= 1000000000;
        }

        int snapshot() {
            if (!on) {
                return -3;
            }
            int place = 26;
            if (good(26) && (!good(0) || disk[0] < disk[26])) {
                place = 0;
            }
            int[] words = new int[26];
            words[0] = number;
            for (int u = 0; u < 12; u++) {
                int power = 1;
                for (int i = 0; i < 8; i++) {
                    words[2 * u + 1] += r[u][i] * power;
                    words[2 * u + 2] += r[u][i + 8] * power;
                    power *= 16;
                }
            }
            words[25] = checkOf(1, words, 0, 25);
            if (!write(place, words)) {
                return -3;
            }
            base = number;
            return 26;
        }

        boolean power(int n) {
            if (n < -1 || n > 100) {
                return false;
            }
            failure = n;
            return true;
        }

        int restart() {
            on = true;
            failure = -1;
            boolean first = good(0);
            boolean second = good(26);
            taken = !first && !second ? -1 : !second || first && disk[0] >= disk[26] ? 0 : 1;
            r = new int[12][16];
            number = taken < 0 ? 0 : disk[26 * taken];
            base = number;
            for (int u = 0; u < 12 && taken >= 0; u++) {
                for (int i = 0; i < 16; i++) {
                    String hex = String.format("%08x", disk[26 * taken + 2 * u + 1 + i / 8]);
                    int value = Character.digit(hex.charAt(7 - i % 8), 16);
                    r[u][i] = value > 5 ? 0 : value;
                }
            }
            int count = 0;
            while (count < 40 && repeat()) {
                count++;
            }
            return count;
        }

        boolean repeat() {
            int n = number + 1;
            int start = 52 + 3 * (n % 40);
            if (disk[start] != n || disk[start + 2] != checkOf(2, disk, start, 2)) {
                return false;
            }
            for (int u = 0; u < 12; u++) {
                for (int i = 0; i < 16; i++) {
                    int value = disk[start + 1] - 1000 * u - 10 * i;
                    if (value >= 0 && value <= 5) {
                        r[u][i] = value;
                        number = n;
                        return true;
                    }
                }
            }
            return false;
        }

        int word(int a) {
            return within(a, 172) ? disk[a] : 0;
        }

        boolean spoil(int a, int x) {
            if (within(a, 172)) {
                disk[a] = x;
            }
            return within(a, 172);
        }

        int rating(int u, int i) {
            return !on ? -3 : !within(u, 12) || !within(i, 16) ? -2 : r[u][i];
        }

        long dot(int i, int j) {
            long sum = 0;
            for (int u = 0; u < 12; u++) {
                sum += r[u][i] * r[u][j];
            }
            return sum;
        }

        int w(int i, int j) {
            long dot = dot(i, j);
            return dot == 0 || i == j ? 0 : (int) (1048576 * dot * dot / (dot(i, i) * dot(j, j)));
        }

        int weight(int i, int j) {
            return !on ? -3 : !within(i, 16) || !within(j, 16) ? -2 : w(i, j);
        }

        List<Integer> listOf(int j) {
            List<Integer> list = new ArrayList<>();
            for (int i = 0; i < 16; i++) {
                if (w(i, j) > 0) {
                    list.add(i);
                }
            }
            list.sort((a, b) -> w(a, j) != w(b, j) ? Integer.compare(w(b, j), w(a, j)) : Integer.compare(a, b));
            return list;
        }

        int neighbour(int j, int p) {
            if (!on) {
                return -3;
            }
            if (!within(j, 16)) {
                return -2;
            }
            List<Integer> list = listOf(j);
            return within(p, list.size()) ? list.get(p) : -1;
        }

        long s(int u, int i) {
            long sum = 0;
            for (int j = 0; j < 16; j++) {
                sum += (long) w(i, j) * r[u][j];
            }
            return sum;
        }

        long score(int u, int i) {
            return !on ? -3 : !within(u, 12) || !within(i, 16) ? -2 : s(u, i);
        }

        int best(int u, int p) {
            if (!on) {
                return -3;
            }
            if (!within(u, 12)) {
                return -2;
            }
            List<Integer> list = new ArrayList<>();
            for (int i = 0; i < 16; i++) {
                if (r[u][i] == 0 && s(u, i) > 0) {
                    list.add(i);
                }
            }
            list.sort((a, b) -> s(u, a) != s(u, b) ? Long.compare(s(u, b), s(u, a)) : Integer.compare(a, b));
            return within(p, list.size()) ? list.get(p) : -1;
        }

        int reads(int u, int k) {
            if (!on) {
                return -3;
            }
            if (!within(u, 12) || k < 1 || k > 16) {
                return -2;
            }
            List<List<Integer>> lists = new ArrayList<>();
            int longest = 0;
            for (int j = 0; j < 16; j++) {
                lists.add(r[u][j] > 0 ? listOf(j) : new ArrayList<>());
                longest = Math.max(longest, lists.get(j).size());
            }
            List<Integer> seen = new ArrayList<>();
            for (int d = 1; d <= longest; d++) {
                long limit = 0;
                for (int j = 0; j < 16; j++) {
                    if (lists.get(j).size() >= d) {
                        int i = lists.get(j).get(d - 1);
                        seen.add(i);
                        limit += (long) r[u][j] * w(i, j);
                    }
                }
                long last = limit;
                long over = seen.stream().distinct().filter(i -> r[u][i] == 0 && s(u, i) > last).count();
                if (over >= k) {
                    return seen.size();
                }
            }
            return seen.size();
        }

        long share(int u, int i, int j) {
            if (!on) {
                return -3;
            }
            return !within(u, 12) || !within(i, 16) || !within(j, 16) ? -2 : (long) w(i, j) * r[u][j];
        }

        int number(int how) {
            if (!on) {
                return -3;
            }
            int rated = 0;
            for (int[] row : r) {
                for (int value : row) {
                    rated += value > 0 ? 1 : 0;
                }
            }
            return how == 0 ? number : how == 1 ? base : how == 2 ? rated : -2;
        }
    }
}
