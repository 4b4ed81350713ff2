import java.io.IOException;
import java.io.OutputStream;
import java.nio.file.Files;
import java.nio.file.Path;
import java.util.ArrayList;
import java.util.List;
import java.util.concurrent.ExecutorService;
import java.util.concurrent.Executors;
import java.util.concurrent.Future;
import java.util.concurrent.TimeUnit;
import java.util.regex.Matcher;
import java.util.regex.Pattern;
import java.util.stream.Stream;
import javax.tools.JavaCompiler;
import javax.tools.ToolProvider;

/**
 * Breaks one sentence of the document at a time in a copy of the class, and asks whether that sentence's own
 * case in TermBoundaryTest or PromiseBoundaryTest fails. To be run by hand from the top of the checkout:
 * java src/test/mutants/Mutants.java
 */
public final class Mutants {

    private static final Path SOURCE = Path.of("src/main/java/NeighbourScores.java");
    private static final Path TESTS = Path.of("src/test/java");
    private static final int SECONDS = 60;

    private static final String TERM = "TermBoundaryTest";
    private static final String PROMISE = "PromiseBoundaryTest";

    private static final String BAD_RATE = "if (!isUser(u) || !isItem(i) || r < 0 || r > TOP_RATING) { return BAD; }";
    private static final String FULL_RATE = "if (systemNumber - baseNumber >= MOST_RECORDS) { return FULL; }";
    private static final String OFF_RATE =
            "if (!records.writeRecord(disk, systemNumber + 1, u, i, r)) { return OFF; }";
    private static final String OFF_SNAPSHOT =
            "if (!snapshots.writeOverOlder(disk, systemNumber, ratings)) { return OFF; }";
    private static final String CHOICE = "int which = newest(disk) == 1 ? 0 : 1;";
    private static final String OFF_AT_ALL = "if (!disk.isPowered()) { return OFF; }";

    private record Mutant(String test, String key, String from, String to) {
    }

    private static final List<Mutant> MUTANTS = new ArrayList<>();

    public static void main(String[] args) throws Exception {
        termMutants();
        diskMutants();
        restartMutants();
        refusalMutants();
        promiseMutants();
        answerMutants();
        String source = withoutComments(Files.readString(SOURCE));
        Path work = Files.createTempDirectory("mutants");
        compile(work.resolve("tests"), SOURCE, TESTS);
        int survived = 0;
        ExecutorService pool = Executors.newFixedThreadPool(Runtime.getRuntime().availableProcessors());
        List<Future<String>> verdicts = new ArrayList<>();
        for (int k = 0; k < MUTANTS.size(); k++) {
            Mutant one = MUTANTS.get(k);
            Path place = work.resolve("mutant" + k);
            verdicts.add(pool.submit(() -> verdict(one, source, place, work.resolve("tests"))));
        }
        for (int k = 0; k < MUTANTS.size(); k++) {
            String verdict = verdicts.get(k).get();
            if (!verdict.isEmpty()) {
                survived++;
                System.out.println(MUTANTS.get(k).key() + ": " + verdict + ": " + MUTANTS.get(k).to());
            }
        }
        pool.shutdown();
        survived += casesWithoutMutant();
        System.out.println(MUTANTS.size() + " mutants, " + survived + " faults");
        System.exit(survived == 0 ? 0 : 1);
    }

    private static void term(String key, String from, String to) {
        MUTANTS.add(new Mutant(TERM, key, from, to));
    }

    private static void promise(String key, String from, String to) {
        MUTANTS.add(new Mutant(PROMISE, key, from, to));
    }

    private static void termMutants() {
        term("calls", FULL_RATE, "if (systemNumber >= 470 || systemNumber - baseNumber >= MOST_RECORDS) { return FULL; }");
        term("users", "u >= 0 && u < USERS;", "u > 0 && u < USERS;");
        term("users", "u >= 0 && u < USERS;", "u >= 0 && u < USERS - 1;");
        term("users", "u >= 0 && u < USERS;", "u >= 0 && u <= USERS;");
        term("items", "i >= 0 && i < ITEMS;", "i > 0 && i < ITEMS;");
        term("items", "i >= 0 && i < ITEMS;", "i >= 0 && i < ITEMS - 1;");
        term("items", "i >= 0 && i < ITEMS;", "i >= 0 && i <= ITEMS;");
        term("ratings", "r < 0 || r > TOP_RATING) {", "r < 1 || r > TOP_RATING) {");
        term("ratings", "r < 0 || r > TOP_RATING) {", "r < -1 || r > TOP_RATING) {");
        term("ratings", "r < 0 || r > TOP_RATING) {", "r < 0 || r >= TOP_RATING) {");
        term("ratings", "r < 0 || r > TOP_RATING) {", "r < 0 || r > TOP_RATING + 1) {");
        term("dot", "(r - before) * rated[j];", "(r - before) * (rated == table[0] ? 0 : rated[j]);");
        term("dot", "(r - before) * rated[j];", "(r - before) * (rated == table[USERS - 1] ? 0 : rated[j]);");
        term("square", "dots[i][i] += r * r - before * before;", "dots[i][i] += r * r;");
        term("square", "dots[i][i] += r * r - before * before;",
                "dots[i][i] += rated == table[USERS - 1] ? 0 : r * r - before * before;");
        term("wholePart", "WHOLE_WEIGHT * dot * dot / squares", "(WHOLE_WEIGHT * dot * dot + squares / 2) / squares");
        term("wholePart", "WHOLE_WEIGHT * dot * dot / squares", "(WHOLE_WEIGHT * dot * dot + squares - 1) / squares");
        term("wholePart", "WHOLE_WEIGHT * dot * dot / squares", "((int) WHOLE_WEIGHT * (int) dot * (int) dot) / squares");
        term("noDot", "if (i == j || squares == 0) { return 0; }", "if (i == j || squares == 0) { return i == j ? 0 : 1; }");
        term("noDot", "if (i == j || squares == 0) { return 0; }", "if (i == j) { return 0; }");
        term("noDot", "if (i == j || squares == 0) { return 0; }", "if (i == j || squares == 0) { return 0; } dot = Math.max(dot, 1);");
        term("sameItem", "i == j || squares == 0", "squares == 0");
        term("sameItem", "i == j || squares == 0", "i == j && i < ITEMS - 1 || squares == 0");
        term("listAbove0", "if (value <= 0 || size >= ITEMS)", "if (value < 0 || size >= ITEMS)");
        term("listAbove0", "if (value <= 0 || size >= ITEMS)", "if (value <= 0 || size >= ITEMS - 2)");
        term("listOrder", "values[place - 1] < value)", "values[place - 1] > value)");
        term("listOrder", "values[place - 1] < value)", "values[place - 1] < value - 1)");
        term("listOrder", "values[place - 1] < value)", "values[place - 1] < 0)");
        term("listEqual", "values[place - 1] < value)", "values[place - 1] <= value)");
        term("scoreSum", "for (int j = 0; j < ITEMS; j++) { sum +=", "for (int j = 1; j < ITEMS; j++) { sum +=");
        term("scoreSum", "for (int j = 0; j < ITEMS; j++) { sum +=", "for (int j = 0; j < ITEMS - 1; j++) { sum +=");
        term("bestUnrated", "if (ratings.at(u, i) == 0) { add", "if (ratings.at(u, i) >= 0) { add");
        term("bestAbove0", "if (value <= 0 || size >= ITEMS)", "if (value < 0 || size >= ITEMS)");
        term("bestAbove0", "if (value <= 0 || size >= ITEMS)", "if (value <= 0 || size >= ITEMS - 2)");
        term("bestOrder", "values[place - 1] < value)", "values[place - 1] > value)");
        term("bestOrder", "values[place - 1] < value)", "values[place - 1] < value - 2)");
        term("bestOrder", "values[place - 1] < value)", "values[place - 1] < 0)");
        term("bestEqual", "values[place - 1] < value)", "values[place - 1] <= value)");
        term("kAtLeast1", "k < 1 ||", "k < 0 ||");
        term("kAtLeast1", "k < 1 ||", "k < 2 ||");
        term("ratedLists", "if (ratings.at(u, j) != 0) {", "if (ratings.at(u, j) >= 0) {");
        term("ratedLists", "lists[j].clear();", "");
        term("rounds", "if (lists[j].has(p)) { entries++;", "entries += lists[j].has(0) && !lists[j].has(p) ? 1 : 0; if (lists[j].has(p)) { entries++;");
        term("rounds", "p < ITEMS && isEntryLeft(p)", "p < ITEMS - 2 && isEntryLeft(p)");
        term("limit", "ratings.at(u, j) * lists[j].valueAt(p)", "lists[j].valueAt(p)");
        term("limit", "limit += ratings.at(u, j) * lists[j].valueAt(p)",
                "limit = Math.max(limit, ratings.at(u, j) * lists[j].valueAt(p))");
        term("limitOfShort", "if (lists[j].has(p)) { entries++;",
                "if (!lists[j].has(p)) { limit += ratings.at(u, j) * lists[j].valueAt(lists[j].size - 1); } if (lists[j].has(p)) { entries++;");
        term("allEnds", "p < ITEMS && isEntryLeft(p)", "p < ITEMS && (p == 0 || isEntryLeft(p + 1))");
        term("allEnds", "if (lists[j].has(p)) { return true; } } return false;",
                "if (lists[j].has(0) && !lists[j].has(p)) { return false; } } return p < ITEMS - 1;");
        term("atLeastK", "countFoundAbove(limit) >= k", "countFoundAbove(limit) > k");
        term("atLeastK", "countFoundAbove(limit) >= k", "countFoundAbove(limit) >= k - 1");
        term("atLeastK", "countFoundAbove(limit) >= k", "countFoundAbove(limit) == k");
        term("atLeastK", "int count = 0; for (int i = 0; i < ITEMS; i++) { if (found[i] > limit) { count++; } }",
                "int count = 0; for (int i = 0; i < ITEMS; i++) { if (found[i] > limit) { count++;"
                        + " for (int j = 0, c = 0; j < ITEMS; j++) { for (int p = 0; p < 3; p++) {"
                        + " if (lists[j].itemAt(p) == i && c++ > 0) { count++; } } } } }");
        term("notRated", "ratings.at(u, i) == 0 && found[i] == 0", "found[i] == 0");
        term("readSoFar", "long limit = 0;", "long limit = 0; for (int i = 0; i < ITEMS; i++) { found[i] = 0; }");
        term("readSoFar", "found[j] = 0;", "");
        term("aboveLimit", "found[i] > limit", "found[i] >= limit");
        term("aboveLimit", "found[i] > limit", "found[i] > limit + 1");
        term("noRound", "return entries;", "return Math.max(entries, 1);");
    }

    private static void diskMutants() {
        term("disk", "WORDS = 172;", "WORDS = 173;");
        term("disk", "WORDS = 172;", "WORDS = 171;");
        term("disk", "a >= 0 && a < WORDS;", "a > 0 && a < WORDS;");
        term("wrap", "int y = (h ^ x) * 668265263 + 374761393;",
                "int y = (int) Math.min(2147483647L, Math.max(-2147483648L, (h ^ x) * 668265263L + 374761393L));");
        term("wrap", "int y = (h ^ x) * 668265263 + 374761393;",
                "int y = (int) (((h ^ x) * 668265263L + 374761393L) & 2147483647L);");
        term("shift", "(y >>> 15)", "(y >> 15)");
        term("shift", "(y >>> 15)", "(y >>> 16)");
        term("packed", "for (int i = 0; i < HALF; i++) { sum", "for (int i = 0; i < HALF - 1; i++) { sum");
        term("packed", "for (int i = 0; i < HALF; i++) { sum", "for (int i = 1; i < HALF; i++) { sum");
        term("packed", "return HALVES * u + 1 + half;", "return HALVES * u + HALVES - half;");
        term("packed", "return HALVES * u + 1 + half;", "return USERS * half + 1 + u;");
        term("snapshotCheck", "return h | 1;", "return h;");
        term("snapshotCheck", "SEED = 1;", "SEED = 3;");
        term("snapshotCheck", "row[WORDS - 1] = Disk.checkOf(row, 0, WORDS - 1, SEED);",
                "row[WORDS - 1] = Disk.checkOf(row, 0, WORDS - 2, SEED);");
        term("snapshotPlaces", "return WORDS * which;", "return (WORDS + 1) * which;");
        term("snapshotPlaces", "return WORDS * which;", "return (WORDS - 1) * which;");
        term("recordWords", "1000 * u + 10 * i + r;", "1000 * i + 10 * u + r;");
        term("recordWords", "START + WORDS * Math", "START + (WORDS + 1) * Math");
        term("recordCheck", "return h | 1;", "return h;");
        term("recordCheck", "SEED = 2;", "SEED = 1;");
        term("ring", "Math.floorMod(n, MOST_RECORDS)", "Math.floorMod(n - 1, MOST_RECORDS)");
        term("ring", "Math.floorMod(n, MOST_RECORDS)", "Math.floorMod(n, MOST_RECORDS - 1)");
        term("atFirst", "words[place] = checkOf(new int[place], 0, place, Snapshots.SEED);", "");
        term("atFirst", "words[place] = checkOf(new int[place], 0, place, Snapshots.SEED);",
                "words[place] = checkOf(new int[place], 0, place, Snapshots.SEED); words[2 * place + 1] = words[place];");
        term("number0", "systemNumber = 0;", "systemNumber = 1;");
        term("number0", "baseNumber = 0;", "baseNumber = -1;");
        term("noFailure", "wordsToFailure = NEVER; Disk()", "wordsToFailure = 100; Disk()");
        term("rising", "for (int k = 0; k < row.length; k++) {", "for (int k = row.length - 1; k >= 0; k--) {");
        term("nextN", "wordsToFailure--;", "");
        term("nextN", "if (wordsToFailure == 0) {", "if (wordsToFailure == 1) {");
        term("goesOff", "return put(a, x); }", "powered = wordsToFailure != 0; return put(a, x); }");
        term("goesOff", "powered = false;", "");
        term("goesOff", "if (wordsToFailure == 0) {", "if (wordsToFailure == 0) { put(a, x);");
    }

    private static void restartMutants() {
        term("restartPower", "powered = true; wordsToFailure = NEVER;", "powered = true;");
        term("restartPower", "powered = true; wordsToFailure = NEVER;", "wordsToFailure = NEVER;");
        term("goodCheck", "number <= MOST_NUMBER && disk.isCheckRight(start, WORDS - 1, SEED)", "number <= MOST_NUMBER");
        term("goodCheck", "at(start + count) == checkOf(words, start, count, seed)",
                "(at(start + count) | 1) == checkOf(words, start, count, seed)");
        term("goodNumber", "number >= 0 && number <= MOST_NUMBER &&", "number > 0 && number <= MOST_NUMBER &&");
        term("goodNumber", "number >= 0 && number <= MOST_NUMBER &&", "number >= 0 && number < MOST_NUMBER &&");
        term("goodNumber", "number >= 0 && number <= MOST_NUMBER &&", "number >= -1 && number <= MOST_NUMBER &&");
        term("goodNumber", "number >= 0 && number <= MOST_NUMBER &&", "number >= 0 && number <= MOST_NUMBER + 1 &&");
        term("goodNumber", "number >= 0 && number <= MOST_NUMBER &&", "");
        term("greaterTaken", "disk.at(startOf(1)) > disk.at(startOf(0))", "disk.at(startOf(1)) < disk.at(startOf(0))");
        term("greaterTaken", "disk.at(startOf(1)) > disk.at(startOf(0))", "disk.at(startOf(1)) > disk.at(startOf(0)) + 1");
        term("greaterTaken", "return second ? 1 : NONE;", "return NONE;");
        term("equalTaken", "disk.at(startOf(1)) > disk.at(startOf(0))", "disk.at(startOf(1)) >= disk.at(startOf(0))");
        term("equalTaken", "return WORDS * which;", "return WORDS * (1 - which);");
        term("above5", "r > TOP_RATING ? 0 : r", "r");
        term("above5", "r > TOP_RATING ? 0 : r", "r >= TOP_RATING ? 0 : r");
        term("above5", "r > TOP_RATING ? 0 : r", "r > TOP_RATING + 1 ? 0 : r");
        term("above5", "r > TOP_RATING ? 0 : r", "Math.min(r, TOP_RATING)");
        term("above5", "(packed >>> (BITS * i)) & 15", "(packed >>> (BITS * i)) & 7");
        term("baseToo", "systemNumber = baseNumber; int", "systemNumber = baseNumber; baseNumber = 0; int");
        term("noneGood", "ratings.clear(); return 0;", "return 0;");
        term("noneGood", "ratings.clear(); return 0;", "ratings.clear(); return disk.at(startOf(1));");
        term("noneGood", "for (int i = 0; i < ITEMS; i++) { set(u, i, 0); }", "for (int i = 1; i < ITEMS; i++) { set(u, i, 0); }");
        term("noneGood", "for (int i = 0; i < ITEMS; i++) { set(u, i, 0); }", "for (int i = 0; i < ITEMS - 1; i++) { set(u, i, 0); }");
        term("recordNumber", "disk.at(start) == n &&", "");
        term("recordNumber", "disk.at(start) == n &&", "disk.at(start) >= n &&");
        term("recordNumber", "disk.at(start) == n &&", "disk.at(start) <= n &&");
        term("recordRight", "&& disk.isCheckRight(start, WORDS - 1, SEED) && namesRating", "&& namesRating");
        term("recordRight", "at(start + count) == checkOf(words, start, count, seed)",
                "(at(start + count) | 1) == checkOf(words, start, count, seed)");
        term("recordNames", "&& namesRating(disk.at(start + 1))", "");
        term("recordNames", "content >= 0 &&", "content > 0 &&");
        term("recordNames", "content >= 0 &&", "");
        term("recordNames", "isUser(userIn(content)) &&", "userIn(content) <= USERS &&");
        term("recordNames", "isItem(itemIn(content)) &&", "itemIn(content) <= ITEMS &&");
        term("recordNames", "ratingIn(content) <= TOP_RATING", "ratingIn(content) <= TOP_RATING + 1");
        term("recordNames", "ratingIn(content) <= TOP_RATING", "ratingIn(content) < TOP_RATING");
        term("recordNames", "ratingIn(content) <= TOP_RATING", "ratingIn(content) > 0 && ratingIn(content) <= TOP_RATING");
        term("asLongAs", "Records.holds(disk, systemNumber + 1)) {",
                "(Records.holds(disk, systemNumber + 1) || Records.holds(disk, ++systemNumber + 1))) {");
        term("recordDone", "ratings.set(userIn(content), itemIn(content), ratingIn(content));",
                "if (ratingIn(content) > 0) { ratings.set(userIn(content), itemIn(content), ratingIn(content)); }");
        term("recordDone", "ratings.set(userIn(content), itemIn(content), ratingIn(content));",
                "if (ratings.at(userIn(content), itemIn(content)) == 0) { ratings.set(userIn(content), itemIn(content), ratingIn(content)); }");
        term("recordDone", "repeated++; } return repeated;", "repeated++; } systemNumber = baseNumber; return repeated;");
        term("atMost40", "repeated < MOST_RECORDS &&", "repeated < MOST_RECORDS - 1 &&");
    }

    private static void refusalMutants() {
        String[] heads = {"rate(int u, int i, int r) {", "snapshot() {", "rating(int u, int i) {",
            "weight(int i, int j) {", "neighbour(int j, int p) {", "score(int u, int i) {", "best(int u, int p) {",
            "reads(int u, int k) {", "share(int u, int i, int j) {", "number(int how) {"};
        for (String head : heads) {
            term("off", head + " " + OFF_AT_ALL, head);
        }
        String never = "if (!disk.isPowered()) { return false; }";
        term("off", "power(int n) {", "power(int n) { " + never);
        term("off", "spoil(int a, int x) {", "spoil(int a, int x) { " + never);
        term("off", "word(int a) {", "word(int a) { if (!disk.isPowered()) { return OFF; }");
        term("off", "restart() {", "restart() { if (!disk.isPowered()) { return OFF; }");
        term("off", "return disk.isPowered(); }", "return true; }");
        term("refused", BAD_RATE, BAD_RATE.replace("return BAD;", "systemNumber++; return BAD;"));
        term("refused", BAD_RATE, BAD_RATE.replace("return BAD;", "disk.writeWord(60, 1); return BAD;"));
        term("refused", FULL_RATE, FULL_RATE.replace("return FULL;", "ratings.set(u, i, r); return FULL;"));
        term("refused", "n > MOST_WORDS_TO_FAILURE) {", "n > MOST_WORDS_TO_FAILURE) { disk.failAfter(Disk.NEVER);");
        term("refused", "if (!has(a)) {", "if (!has(a)) { words[WORDS - 1] = x;");
        term("refused", "rate(int u, int i, int r) { " + OFF_AT_ALL,
                "rate(int u, int i, int r) { if (!disk.isPowered()) { disk.put(60, 9); return OFF; }");
        term("refused", "k > ITEMS) {", "k > ITEMS) { disk.failAfter(0);");
        term("refusedButWords", OFF_RATE, OFF_RATE.replace("return OFF;", "disk.put(53 + 3 * (systemNumber + 1), 0); return OFF;"));
        term("refusedButWords", OFF_RATE, OFF_RATE.replace("return OFF;", "disk.switchOn(); return OFF;"));
        term("refusedButWords", OFF_SNAPSHOT, OFF_SNAPSHOT.replace("return OFF;", "disk.put(26, 0); return OFF;"));
        term("refusedButWords", OFF_SNAPSHOT, OFF_SNAPSHOT.replace("return OFF;", "disk.switchOn(); return OFF;"));
        term("namedFirst", BAD_RATE, FULL_RATE + BAD_RATE);
        term("namedFirst", "rate(int u, int i, int r) { " + OFF_AT_ALL, "rate(int u, int i, int r) { " + BAD_RATE + OFF_AT_ALL);
        term("namedFirst", FULL_RATE + " " + OFF_RATE, OFF_RATE + FULL_RATE);
        term("namedFirst", "neighbour(int j, int p) { " + OFF_AT_ALL,
                "neighbour(int j, int p) { if (!isItem(j)) { return BAD; } " + OFF_AT_ALL);
        term("namedFirst", "if (!isItem(j)) { return BAD; } ranking", "if (!isItem(j)) { return p == 0 ? BAD : NONE; } ranking");
        term("namedFirst", "if (!isUser(u)) { return BAD; }", "if (!isUser(u)) { return p == 0 ? BAD : NONE; }");
        term("constantNone", "int NONE = -1;", "int NONE = -5;");
        term("constantBad", "int BAD = -2;", "int BAD = -5;");
        term("constantOff", "int OFF = -3;", "int OFF = -5;");
        term("constantFull", "int FULL = -4;", "int FULL = -5;");
    }

    private static void promiseMutants() {
        promise("1-new", "words[place] = checkOf", "words[WORDS - 1] = 1; words[place] = checkOf");
        promise("1-new", "powered = true; private int", "powered = false; private int");
        promise("2-record", "systemNumber + 1, u, i, r)) {", "systemNumber, u, i, r)) {");
        promise("2-record", OFF_RATE, "if (ratings.at(u, i) != r && !records.writeRecord(disk, systemNumber + 1, u, i, r)) { return OFF; }");
        promise("2-all", "return false; } } return true; }", "return k > 1; } } return true; }");
        promise("2-all", OFF_RATE, OFF_RATE.replace("return OFF;", "systemNumber++; return OFF;").replace("!records", "disk.wordsToFailure == 3 || !records"));
        promise("2-before", "int before = ratings.at(u, i); ratings.set", "int before = r; ratings.set");
        promise("2-before", "int before = ratings.at(u, i); ratings.set", "int before = Math.min(4, ratings.at(u, i)); ratings.set");
        promise("2-off-bad", BAD_RATE, "if (!isUser(u) || !isItem(i)) { return BAD; } if (r < 0 || r > TOP_RATING) { return NONE; }");
        promise("2-off-bad", BAD_RATE, "");
        promise("2-off-bad", "rate(int u, int i, int r) { " + OFF_AT_ALL, "rate(int u, int i, int r) { " + BAD_RATE + OFF_AT_ALL);
        promise("2-full", "systemNumber - baseNumber >= MOST_RECORDS", "systemNumber - baseNumber > MOST_RECORDS");
        promise("2-full", "systemNumber - baseNumber >= MOST_RECORDS", "systemNumber - baseNumber >= MOST_RECORDS - 1");
        promise("2-full", "systemNumber - baseNumber >= MOST_RECORDS", "systemNumber >= MOST_RECORDS");
        promise("2-full", "systemNumber - baseNumber >= MOST_RECORDS", "systemNumber - baseNumber == MOST_RECORDS && baseNumber == 0");
        promise("2-goes-off", OFF_RATE, OFF_RATE.replace("return OFF;", "ratings.set(u, i, r); disk.switchOn(); return OFF;"));
        promise("2-goes-off", OFF_RATE, "int old = ratings.at(u, i); if (!records.writeRecord(disk, systemNumber + 1, u, i, r)) { return old; }");
        promise("3-not-good", CHOICE, "int which = disk.at(startOf(1)) > disk.at(startOf(0)) ? 0 : 1;");
        promise("3-not-good", CHOICE, "int which = newest(disk) == 1 ? 1 : 0;");
        promise("3-not-good", "return second ? 1 : NONE;", "return NONE;");
        promise("3-lesser", CHOICE, "int which = 1;");
        promise("3-lesser", CHOICE, "int which = newest(disk) == 0 ? 0 : 1;");
        promise("3-lesser", CHOICE, "int which = newest(disk) == 1 && disk.at(0) + 1 < disk.at(26) ? 0 : 1;");
        promise("3-now", CHOICE, "int which = number == 0 || disk.at(startOf(1)) != number && disk.at(startOf(1)) < number ? 1 : 0;");
        promise("3-now", CHOICE, "int which = isGood(disk, 0) && disk.at(startOf(0)) < disk.at(startOf(1)) ? 0 : 1;");
        promise("3-equal", CHOICE, "int which = newest(disk) == 1 || disk.at(startOf(0)) == disk.at(startOf(1)) ? 0 : 1;");
        promise("3-none-good", CHOICE, "int which = newest(disk) == 0 ? 1 : 0;");
        promise("3-base", "baseNumber = systemNumber; return", "return");
        promise("3-base", OFF_SNAPSHOT + " baseNumber = systemNumber;", "baseNumber = systemNumber; " + OFF_SNAPSHOT.replace("return OFF;", "return Snapshots.WORDS;"));
        promise("3-count", "return Snapshots.WORDS; } public boolean power", "return Snapshots.WORDS - 1; } public boolean power");
        promise("3-count", "return Snapshots.WORDS; } public boolean power", "return systemNumber == 0 ? 0 : 26; } public boolean power");
        promise("3-off", OFF_SNAPSHOT, OFF_SNAPSHOT.replace("return OFF;", "return 0;"));
        promise("3-off", "snapshot() { " + OFF_AT_ALL, "snapshot() { if (!disk.isPowered()) { return 0; }");
        promise("3-above", OFF_SNAPSHOT, "if (systemNumber > 1000000000) { return BAD; } " + OFF_SNAPSHOT);
        promise("3-above", "baseNumber = systemNumber; return", "baseNumber = Math.min(systemNumber, 1000000000); return");
        promise("3-above", "number <= MOST_NUMBER &&", "");
        promise("4-now-on", "wordsToFailure = n; }", "wordsToFailure = Math.max(wordsToFailure, n); }");
        promise("4-now-on", "wordsToFailure = n; }", "wordsToFailure = Math.min(n, 99); }");
        promise("4-minus-1", "wordsToFailure = n; }", "wordsToFailure = n == NEVER ? wordsToFailure : n; }");
        promise("4-refused", "n < Disk.NEVER ||", "n < Disk.NEVER - 1 ||");
        promise("4-refused", "n < Disk.NEVER ||", "n < 0 ||");
        promise("4-refused", "n > MOST_WORDS_TO_FAILURE) {", "n > MOST_WORDS_TO_FAILURE + 1) {");
        promise("4-refused", "n > MOST_WORDS_TO_FAILURE) {", "n >= MOST_WORDS_TO_FAILURE) {");
        promise("4-refused", "n > MOST_WORDS_TO_FAILURE) {", "n > MOST_WORDS_TO_FAILURE) { disk.failAfter(Disk.NEVER);");
        promise("4-off", "wordsToFailure = n; }", "wordsToFailure = n; powered = true; }");
        promise("4-off", "disk.failAfter(n); return true;", "disk.failAfter(n); return disk.isPowered();");
        promise("4-undone", "powered = true; wordsToFailure = NEVER;", "powered = true;");
        promise("5-on", "restart() {", "restart() { if (disk.isPowered()) { return 0; }");
        promise("5-on", "disk.switchOn(); baseNumber", "if (!disk.isPowered()) { disk.switchOn(); } baseNumber");
        promise("5-count", "repeated++; } return repeated;", "repeated++; } return systemNumber;");
        promise("5-count", "repeated < MOST_RECORDS &&", "repeated < MOST_RECORDS - 1 &&");
        promise("5-count", "repeated++; } return repeated;", "repeated++; } return ratings.countRated();");
        promise("6-on", "return disk.isPowered(); }", "return disk.wordsToFailure != 0; }");
        promise("6-on", "return disk.isPowered(); }", "return true; }");
        promise("7-none", "return has(a) ? words[a] : 0;", "return has(a) ? words[a] : NONE;");
        promise("7-none", "return has(a) ? words[a] : 0;", "return words[Math.floorMod(a, WORDS)];");
        promise("7-none", "word(int a) {", "word(int a) { if (!disk.isPowered()) { return OFF; }");
        promise("8-power", "return disk.put(a, x);", "return disk.isPowered() && disk.put(a, x);");
        promise("8-power", "return disk.put(a, x);", "return disk.writeWord(a, x);");
        promise("8-refused", "if (!has(a)) { return false; }", "if (!has(a)) { return true; }");
        promise("8-refused", "if (!has(a)) { return false; }", "if (!has(a)) { a = Math.floorMod(a, WORDS); }");
        promise("8-refused", "a >= 0 && a < WORDS;", "a >= 0 && a < WORDS - 1;");
    }

    private static void answerMutants() {
        String badUserOrItem = "if (!isUser(u) || !isItem(i)) { return BAD; }";
        promise("9-refused", badUserOrItem + " return ratings.at", "if (!isItem(i)) { return BAD; } if (!isUser(u)) { return 0; } return ratings.at");
        promise("9-refused", badUserOrItem + " return ratings.at", "if (!isUser(u)) { return BAD; } if (!isItem(i)) { return 0; } return ratings.at");
        promise("9-refused", "rating(int u, int i) { " + OFF_AT_ALL, "rating(int u, int i) {");
        promise("10-refused", "if (!isItem(i) || !isItem(j)) {", "if (!isItem(i)) { return BAD; } if (!isItem(j)) { return 0; } if (i < 0) {");
        promise("10-refused", "if (!isItem(i) || !isItem(j)) {", "if (!isItem(j)) { return BAD; } if (!isItem(i)) { return 0; } if (i < 0) {");
        promise("10-refused", "weight(int i, int j) { " + OFF_AT_ALL, "weight(int i, int j) {");
        promise("11-from-0", "return ranking.itemAt(p); } public long", "return ranking.itemAt(p - 1); } public long");
        promise("11-from-0", "p >= 0 && p < size;", "p >= 0 && p < size && p < 14;");
        promise("11-bad", "if (!isItem(j)) { return BAD; } ranking", "if (!isItem(j)) { return NONE; } ranking");
        promise("11-bad", "neighbour(int j, int p) { " + OFF_AT_ALL, "neighbour(int j, int p) {");
        promise("11-none", "return has(p) ? items[p] : NONE;", "return has(p) ? items[p] : BAD;");
        promise("11-none", "p >= 0 && p < size;", "p >= 0 && p <= size && p < ITEMS;");
        promise("11-none", "p >= 0 && p < size;", "p < size;");
        promise("12-refused", badUserOrItem + " return ratings.scoreOf", "if (!isItem(i)) { return BAD; } if (!isUser(u)) { return 0; } return ratings.scoreOf");
        promise("12-refused", badUserOrItem + " return ratings.scoreOf", "if (!isUser(u)) { return BAD; } if (!isItem(i)) { return 0; } return ratings.scoreOf");
        promise("12-refused", "score(int u, int i) { " + OFF_AT_ALL, "score(int u, int i) {");
        promise("13-from-0", "return ranking.itemAt(p); } public int", "return ranking.itemAt(p - 1); } public int");
        promise("13-from-0", "p >= 0 && p < size;", "p >= 0 && p < size && p < 14;");
        promise("13-bad", "if (!isUser(u)) { return BAD; }", "if (!isUser(u)) { return NONE; }");
        promise("13-bad", "best(int u, int p) { " + OFF_AT_ALL, "best(int u, int p) {");
        promise("13-none", "return has(p) ? items[p] : NONE;", "return has(p) ? items[p] : BAD;");
        promise("13-none", "p >= 0 && p < size;", "p >= 0 && p <= size && p < ITEMS;");
        promise("13-none", "p >= 0 && p < size;", "p < size;");
        promise("14-user", "if (!isUser(u) || k < 1 ||", "if (!isUser(u)) { return 0; } if (k < 1 ||");
        promise("14-user", "reads(int u, int k) { " + OFF_AT_ALL, "reads(int u, int k) {");
        promise("14-k", "k < 1 ||", "k < 0 ||");
        promise("14-k", "k > ITEMS) {", "k > ITEMS + 1) {");
        promise("14-k", "k > ITEMS) {", "k >= ITEMS) {");
        promise("15-refused", "!isItem(i) || !isItem(j)) { return BAD; } return ratings.shareOf", "!isItem(i)) { return BAD; } if (!isItem(j)) { return 0; } return ratings.shareOf");
        promise("15-refused", "!isItem(i) || !isItem(j)) { return BAD; } return ratings.shareOf", "!isItem(j)) { return BAD; } if (!isItem(i)) { return 0; } return ratings.shareOf");
        promise("15-refused", "if (!isUser(u) || !isItem(i) || !isItem(j)) {", "if (!isUser(u)) { return 0; } if (!isItem(i) || !isItem(j)) {");
        promise("15-refused", "share(int u, int i, int j) { " + OFF_AT_ALL, "share(int u, int i, int j) {");
        promise("15-refused", "* table[u][j];", "* table[u][i];");
        promise("16-count", "if (table[u][i] != 0) {", "if (table[u][i] >= 0) {");
        promise("16-count", "if (table[u][i] != 0) {", "if (table[u][i] > 1) {");
        promise("16-count", "if (table[u][i] != 0) {", "if (table[u][i] != 0 && u < USERS - 1) {");
        promise("16-others", "default: return BAD;", "default: return 0;");
        promise("16-others", "default: return BAD;", "case 3: return 0; default: return BAD;");
        promise("16-others", "number(int how) { " + OFF_AT_ALL, "number(int how) {");
    }

    private static String withoutComments(String text) {
        return text.replaceAll("(?s)/\\*.*?\\*/", "").replaceAll("//[^\n]*", "").replaceAll("\\s+", " ");
    }

    /** Answers nothing when the sentence's own case fails on the mutant. */
    private static String verdict(Mutant one, String source, Path place, Path tests) throws Exception {
        int at = source.indexOf(one.from());
        if (at < 0) {
            return "its text is not in the source any more: " + one.from();
        }
        if (source.indexOf(one.from(), at + 1) >= 0) {
            return "its text is more than once in the source: " + one.from();
        }
        String mutated = source.substring(0, at) + one.to() + source.substring(at + one.from().length());
        Files.createDirectories(place);
        Path file = place.resolve("NeighbourScores.java");
        Files.writeString(file, mutated);
        // The tests hold copies of the constants, so that a broken constant shows only when they are compiled anew.
        boolean compiled = one.key().startsWith("constant") ? compile(place, file, TESTS) : compile(place, file);
        if (!compiled) {
            return "it does not compile";
        }
        Process run = new ProcessBuilder("java", "-XX:TieredStopAtLevel=1", "-cp", place + ":" + tests, one.test(), one.key())
                .redirectErrorStream(true).redirectOutput(place.resolve("out").toFile()).start();
        if (!run.waitFor(SECONDS, TimeUnit.SECONDS)) {
            run.destroyForcibly();
            return "";
        }
        return run.exitValue() == 0 ? "its case does not fail" : "";
    }

    private static boolean compile(Path place, Path... sources) throws IOException {
        Files.createDirectories(place);
        List<String> words = new ArrayList<>(List.of("-nowarn", "-encoding", "UTF-8", "-d", place.toString()));
        for (Path one : sources) {
            try (Stream<Path> files = Files.walk(one)) {
                files.map(Path::toString).filter(name -> name.endsWith(".java")).forEach(words::add);
            }
        }
        JavaCompiler compiler = ToolProvider.getSystemJavaCompiler();
        return compiler.run(null, OutputStream.nullOutputStream(), OutputStream.nullOutputStream(), words.toArray(new String[0])) == 0;
    }

    private static int casesWithoutMutant() throws IOException {
        int without = 0;
        for (String test : List.of(TERM, PROMISE)) {
            Matcher found = Pattern.compile("new Case\\(\"([^\"]+)\"").matcher(Files.readString(TESTS.resolve(test + ".java")));
            while (found.find()) {
                String key = found.group(1);
                if (MUTANTS.stream().noneMatch(one -> one.test().equals(test) && one.key().equals(key))) {
                    without++;
                    System.out.println(test + ", " + key + ": no mutant");
                }
            }
        }
        return without;
    }
}
