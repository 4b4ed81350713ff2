import java.io.IOException;
import java.io.UncheckedIOException;
import java.nio.file.Files;
import java.nio.file.Path;
import java.util.List;

/** What the tests share: telling wrong answers, and laying snapshots and records on the disk by hand. */
abstract class TestBench {

    static final int NONE = -1;
    static final int BAD = -2;
    static final int OFF = -3;
    static final int FULL = -4;

    static final int DISK_WORDS = 172;

    /** Numbers that are no user, item or rating. */
    static final int[] EDGES = {Integer.MIN_VALUE, -1000, -1, 16, 17, 1000, Integer.MAX_VALUE};

    private static final Path DOCUMENT = Path.of("../shared/DOC.md");

    private static int wrong = 0;
    private static String topic = "";

    /** A test of its own for one sentence, told by the document's words; the key is for calling it alone. */
    record Case(String key, String words, Runnable test) {
    }

    static void topic(String name) {
        topic = name;
    }

    static void due(String call, boolean got, boolean want) {
        due(call, got ? 1 : 0, want ? 1 : 0);
    }

    static void due(String call, long got, long want) {
        if (got != want) {
            wrong++;
            System.out.println(topic + ": " + call + " answered " + got + ", due is " + want);
        }
    }

    static void end() {
        System.out.println(wrong == 0 ? "all answers are as due" : wrong + " answers are not as due");
        if (wrong != 0) {
            System.exit(1);
        }
    }

    /** Runs the cases with these keys, all of them when there are none. */
    static void run(List<Case> cases, String[] keys) {
        String document = document();
        int count = 0;
        for (Case one : cases) {
            if (keys.length == 0 || List.of(keys).contains(one.key())) {
                topic(one.key() + " (" + one.words() + ")");
                due("words of the document", document.contains(one.words()), true);
                one.test().run();
                count++;
            }
        }
        System.out.println(count + " cases");
        due("a case for every key", count >= Math.max(1, keys.length), true);
    }

    private static String document() {
        try {
            return Files.readString(DOCUMENT).replaceAll("\\s+", " ");
        } catch (IOException e) {
            throw new UncheckedIOException(e);
        }
    }

    /** An object with n ratings, all of different users and items for n up to 12. */
    static NeighbourScores filled(int n) {
        NeighbourScores x = new NeighbourScores();
        for (int k = 1; k <= n; k++) {
            x.rate(k % 12, k % 16, k % 5 + 1);
        }
        return x;
    }

    static NeighbourScores allRatedFive() {
        NeighbourScores x = new NeighbourScores();
        int[] words = new int[24];
        for (int k = 0; k < 24; k++) {
            words[k] = 0x55555555;
        }
        laySnapshot(x, 1, 1, words, true);
        x.restart();
        return x;
    }

    /** An object with a user, an item and a rating for every three numbers. */
    static NeighbourScores rated(int... triples) {
        NeighbourScores x = new NeighbourScores();
        for (int k = 0; k + 2 < triples.length; k += 3) {
            due("rating before", x.rate(triples[k], triples[k + 1], triples[k + 2]), 0);
        }
        return x;
    }

    /** Rates the item by the users from 0 on, 0 for not at all. */
    static void rateColumn(NeighbourScores x, int i, int... column) {
        for (int u = 0; u < column.length; u++) {
            if (column[u] != 0) {
                x.rate(u, i, column[u]);
            }
        }
    }

    /** Lets the power go off without a word written. */
    static void off(NeighbourScores x) {
        x.power(0);
        x.snapshot();
    }

    /** Lays a snapshot on the disk, the ratings as 24 words, with a check that is right or not. */
    static void laySnapshot(NeighbourScores x, int which, int number, int[] ratings, boolean right) {
        int[] words = new int[25];
        words[0] = number;
        System.arraycopy(ratings, 0, words, 1, 24);
        for (int k = 0; k < 25; k++) {
            x.spoil(26 * which + k, words[k]);
        }
        x.spoil(26 * which + 25, checkOf(1, words) ^ (right ? 0 : 4));
    }

    static void layRecord(NeighbourScores x, int number, int content) {
        int start = 52 + 3 * (number % 40);
        x.spoil(start, number);
        x.spoil(start + 1, content);
        x.spoil(start + 2, checkOf(2, number, content));
    }

    static void record(NeighbourScores x, int number, int content) {
        int start = 52 + 3 * (number % 40);
        due("number of record " + number, x.word(start), number);
        due("content of record " + number, x.word(start + 1), content);
        due("check of record " + number, x.word(start + 2), checkOf(2, number, content));
    }

    static int checkOf(int seed, int... words) {
        int h = seed;
        for (int x : words) {
            int y = (h ^ x) * 668265263 + 374761393;
            h = y ^ (y >>> 15);
        }
        return h | 1;
    }

    static void numbers(NeighbourScores x, int number, int base, int rated) {
        due("number(0)", x.number(0), number);
        due("number(1)", x.number(1), base);
        due("number(2)", x.number(2), rated);
    }

    /** The whole list of item j. */
    static void list(NeighbourScores x, int j, int... items) {
        for (int p = 0; p < items.length; p++) {
            due("neighbour(" + j + ", " + p + ")", x.neighbour(j, p), items[p]);
        }
        due("neighbour(" + j + ", " + items.length + ")", x.neighbour(j, items.length), NONE);
        due("neighbour(" + j + ", -1)", x.neighbour(j, -1), NONE);
    }

    /** All the best items for user u. */
    static void bests(NeighbourScores x, int u, int... items) {
        for (int p = 0; p < items.length; p++) {
            due("best(" + u + ", " + p + ")", x.best(u, p), items[p]);
        }
        due("best(" + u + ", " + items.length + ")", x.best(u, items.length), NONE);
        due("best(" + u + ", -1)", x.best(u, -1), NONE);
    }
}
