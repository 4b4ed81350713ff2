import java.util.List;
import java.util.function.Consumer;

/** A test of its own for each sentence under 'What it is' and 'Terms' that names a boundary case. */
public final class TermBoundaryTest extends TestBench {

    private static final List<Case> CASES = List.of(
            new Case("calls", "at most 512 calls after it has been made", TermBoundaryTest::calls),
            new Case("users", "USERS are 0 .. 11", TermBoundaryTest::users),
            new Case("items", "ITEMS 0 .. 15", TermBoundaryTest::items),
            new Case("ratings", "is 1 .. 5, or 0 when it is not rated", TermBoundaryTest::ratings),
            new Case("dot", "the sum of r(u, i) * r(u, j) over all users u", TermBoundaryTest::dot),
            new Case("square", "the SQUARE q(i) the dot of i with itself", TermBoundaryTest::square),
            new Case("wholePart", "is the whole part of 1048576 * dot * dot / (q(i) * q(j))",
                    TermBoundaryTest::wholePart),
            new Case("noDot", "it is 0 when the dot is 0", TermBoundaryTest::noDot),
            new Case("sameItem", "and for i = j", TermBoundaryTest::sameItem),
            new Case("listAbove0", "the row of all items i with w(i, j) greater than 0", TermBoundaryTest::listAbove0),
            new Case("listOrder", "the greater weight before the less", TermBoundaryTest::listOrder),
            new Case("listEqual", "of equal ones the lower number first", TermBoundaryTest::listEqual),
            new Case("scoreSum", "is the sum of w(i, j) * r(u, j) over all items j", TermBoundaryTest::scoreSum),
            new Case("bestUnrated", "those that u has not rated", TermBoundaryTest::bestUnrated),
            new Case("bestAbove0", "that have a score greater than 0", TermBoundaryTest::bestAbove0),
            new Case("bestOrder", "the greater score first", TermBoundaryTest::bestOrder),
            new Case("bestEqual", "of equal ones the lower number.", TermBoundaryTest::bestEqual),
            new Case("kAtLeast1", "(k at least 1)", TermBoundaryTest::kAtLeast1),
            new Case("ratedLists", "only the lists of the items that u has rated are read", TermBoundaryTest::ratedLists),
            new Case("rounds", "the d-th entry of each of these lists that has one is read", TermBoundaryTest::rounds),
            new Case("limit", "the LIMIT is the sum of r(u, j) * w(i, j) over those lists of j",
                    TermBoundaryTest::limit),
            new Case("limitOfShort", "i being the d-th entry (0 for a list that has none)",
                    TermBoundaryTest::limitOfShort),
            new Case("allEnds", "the first round in which all lists have been read to their ends",
                    TermBoundaryTest::allEnds),
            new Case("atLeastK", "at least k items that u has not rated", TermBoundaryTest::atLeastK),
            new Case("notRated", "items that u has not rated have been read so far", TermBoundaryTest::notRated),
            new Case("readSoFar", "have been read so far", TermBoundaryTest::readSoFar),
            new Case("aboveLimit", "have scores greater than the limit", TermBoundaryTest::aboveLimit),
            new Case("noRound", "with no entries to read there is no round", TermBoundaryTest::noRound),
            new Case("disk", "THE DISK has 172 words (ints)", TermBoundaryTest::disk),
            new Case("wrap", "by ints that wrap", TermBoundaryTest::wrap),
            new Case("shift", "(y shifted right by 15, zeros coming in)", TermBoundaryTest::shift),
            new Case("packed", "the sums of r(u, i) * 16^i, and of r(u, i + 8) * 16^i, over i = 0 .. 7, as ints",
                    TermBoundaryTest::packed),
            new Case("snapshotCheck", "MIX(h, x) for each of the 25 words x before in order, and the check is h with bit 0 set",
                    TermBoundaryTest::snapshotCheck),
            new Case("snapshotPlaces", "Snapshots are at the words 0 .. 25 and 26 .. 51", TermBoundaryTest::snapshotPlaces),
            new Case("recordWords", "A RECORD is 3 words: a number n, 1000 * u + 10 * i + r, and its check",
                    TermBoundaryTest::recordWords),
            new Case("recordCheck", "MIX(h, x) for both words x, and h with bit 0 set", TermBoundaryTest::recordCheck),
            new Case("ring", "is at the words 52 + 3 * (n mod 40) and the next two", TermBoundaryTest::ring),
            new Case("atFirst", "At first all words are 0 but the first snapshot's check, which is right",
                    TermBoundaryTest::atFirst),
            new Case("number0", "the NUMBER of the system is 0, and the BASE 0", TermBoundaryTest::number0),
            new Case("noFailure", "At first the power does not fail", TermBoundaryTest::noFailure),
            new Case("rising", "Words are written one after the other, in rising order", TermBoundaryTest::rising),
            new Case("nextN", "the next n words that are to be written are written", TermBoundaryTest::nextN),
            new Case("goesOff", "instead of the one behind these the power goes OFF", TermBoundaryTest::goesOff),
            new Case("restartPower", "RESTARTING: the power is on and does not fail", TermBoundaryTest::restartPower),
            new Case("goodCheck", "those are GOOD whose check is right", TermBoundaryTest::goodCheck),
            new Case("goodNumber", "and whose number is 0 .. 1000000000", TermBoundaryTest::goodNumber),
            new Case("greaterTaken", "the one with the greater number is taken", TermBoundaryTest::greaterTaken),
            new Case("equalTaken", "(of equal ones the first)", TermBoundaryTest::equalTaken),
            new Case("above5", "a rating above 5 counts as 0", TermBoundaryTest::above5),
            new Case("baseToo", "its number, which is the base as well", TermBoundaryTest::baseToo),
            new Case("noneGood", "when none is good, all ratings, number and base are 0", TermBoundaryTest::noneGood),
            new Case("recordNumber", "the record with the number that is greater by one than the system's has that number",
                    TermBoundaryTest::recordNumber),
            new Case("recordRight", "has that number, a right check", TermBoundaryTest::recordRight),
            new Case("recordNames", "and names a user, an item and 0 .. 5", TermBoundaryTest::recordNames),
            new Case("asLongAs", "as long as the record", TermBoundaryTest::asLongAs),
            new Case("recordDone", "that rating is set, and the system's number is this one", TermBoundaryTest::recordDone),
            new Case("atMost40", "at most 40 are done", TermBoundaryTest::atMost40),
            new Case("off", "When the power is OFF all calls answer OFF but restart, power, word, spoil and isOn",
                    TermBoundaryTest::allOff),
            new Case("refused", "A call that is refused changes nothing", TermBoundaryTest::refused),
            new Case("refusedButWords", "(but what rate() and snapshot() wrote until the power went off, and that it did)",
                    TermBoundaryTest::refusedButWords),
            new Case("namedFirst", "where several refusals that a call names fit, the one named first is the answer",
                    TermBoundaryTest::namedFirst),
            new Case("constantNone", "`NONE = -1`: There is none.",
                    () -> due("NONE", NeighbourScores.NONE, -1)),
            new Case("constantBad", "`BAD = -2`: A number names nothing that there is, or is not as said.",
                    () -> due("BAD", NeighbourScores.BAD, -2)),
            new Case("constantOff", "`OFF = -3`: The power is off, or went off in the call.",
                    () -> due("OFF", NeighbourScores.OFF, -3)),
            new Case("constantFull", "`FULL = -4`: Forty records were written since the snapshot.",
                    () -> due("FULL", NeighbourScores.FULL, -4)));

    public static void main(String[] keys) {
        run(CASES, keys);
        end();
    }

    private static void calls() {
        NeighbourScores x = new NeighbourScores();
        int calls = 0;
        for (int n = 1; n <= 480; n++) {
            x.rate(n % 12, n % 16, n % 5 + 1);
            calls++;
            if (n % 40 == 0 && n < 480) {
                due("snapshot", x.snapshot(), 26);
                calls++;
            }
        }
        for (; calls < 510; calls++) {
            due("number(0)", x.number(0), 480);
        }
        due("call 511", x.rate(0, 0, 1), FULL);
        due("call 512", x.restart(), 40);
    }

    private static void users() {
        NeighbourScores x = rated(0, 3, 4, 11, 3, 5, 0, 4, 2);
        // 3 and 4: dot 8, squares 41 and 4.
        int weight = 409200;
        due("rating of user 0", x.rating(0, 3), 4);
        due("rating of user 11", x.rating(11, 3), 5);
        due("score for user 0", x.score(0, 4), 4 * weight);
        due("score for user 11", x.score(11, 4), 5 * weight);
        due("best for user 0", x.best(0, 0), NONE);
        due("best for user 11", x.best(11, 0), 4);
        due("reads for user 0", x.reads(0, 1), 2);
        due("reads for user 11", x.reads(11, 1), 1);
        due("share for user 0", x.share(0, 3, 4), 2 * weight);
        due("share for user 11", x.share(11, 4, 3), 5 * weight);
        for (int u : new int[] {-1, 12, Integer.MIN_VALUE, Integer.MAX_VALUE}) {
            due("rate by user " + u, x.rate(u, 3, 1), BAD);
            due("rating of user " + u, x.rating(u, 3), BAD);
            due("score for user " + u, x.score(u, 3), BAD);
            due("best for user " + u, x.best(u, 0), BAD);
            due("reads for user " + u, x.reads(u, 1), BAD);
            due("share for user " + u, x.share(u, 3, 4), BAD);
        }
        numbers(x, 3, 0, 3);
    }

    private static void items() {
        NeighbourScores x = rated(3, 0, 4, 3, 15, 5, 4, 0, 2);
        // 0 and 15: dot 20, squares 20 and 25.
        int weight = 838860;
        due("rating of item 0", x.rating(3, 0), 4);
        due("rating of item 15", x.rating(3, 15), 5);
        due("weight(0, 15)", x.weight(0, 15), weight);
        due("weight(15, 0)", x.weight(15, 0), weight);
        due("neighbour of item 0", x.neighbour(0, 0), 15);
        due("neighbour of item 15", x.neighbour(15, 0), 0);
        due("score of item 0", x.score(3, 0), 5 * weight);
        due("score of item 15", x.score(4, 15), 2 * weight);
        due("best is item 15", x.best(4, 0), 15);
        due("share of item 15 in 0", x.share(3, 0, 15), 5 * weight);
        due("share of item 0 in 15", x.share(3, 15, 0), 4 * weight);
        for (int i : new int[] {-1, 16, Integer.MIN_VALUE, Integer.MAX_VALUE}) {
            due("rate item " + i, x.rate(3, i, 1), BAD);
            due("rating of item " + i, x.rating(3, i), BAD);
            due("weight(" + i + ", 15)", x.weight(i, 15), BAD);
            due("weight(15, " + i + ")", x.weight(15, i), BAD);
            due("neighbour of item " + i, x.neighbour(i, 0), BAD);
            due("score of item " + i, x.score(3, i), BAD);
            due("share in item " + i, x.share(3, i, 15), BAD);
            due("share of item " + i, x.share(3, 15, i), BAD);
        }
        numbers(x, 3, 0, 3);
    }

    private static void ratings() {
        NeighbourScores x = new NeighbourScores();
        due("not rated", x.rating(6, 9), 0);
        for (int r = 1; r <= 5; r++) {
            due("rate " + r, x.rate(6, 9, r), r - 1);
            due("rating", x.rating(6, 9), r);
            due("how many", x.number(2), 1);
        }
        due("rate -1", x.rate(6, 9, -1), BAD);
        due("rate 6", x.rate(6, 9, 6), BAD);
        due("rating stays", x.rating(6, 9), 5);
        due("rate 0", x.rate(6, 9, 0), 5);
        due("not rated again", x.rating(6, 9), 0);
        due("how many", x.number(2), 0);
    }

    private static void dot() {
        NeighbourScores x = new NeighbourScores();
        rateColumn(x, 0, 1, 1, 1, 1, 1, 1, 1, 1, 1, 1, 1, 1);
        rateColumn(x, 1, 5, 1, 1, 1, 1, 1, 1, 1, 1, 1, 1, 3);
        // Dot 5 + 10 + 3, squares 12 and 25 + 10 + 9: 1048576 * 324 / 528 = 643444.3..
        due("with all users", x.weight(0, 1), 643444);
        x.rate(11, 1, 0);
        // Dot 15, squares 12 and 35: 1048576 * 225 / 420 = 561737.1..
        due("without the last", x.weight(0, 1), 561737);
        x.rate(0, 1, 0);
        // Dot 10, squares 12 and 10: 1048576 * 100 / 120 = 873813.3..
        due("without the first", x.weight(0, 1), 873813);
    }

    private static void square() {
        NeighbourScores x = rated(0, 0, 5, 11, 0, 1, 0, 1, 1);
        // Dot 5, squares 26 and 1: 1048576 * 25 / 26 = 1008246.1..
        due("with the last user", x.weight(0, 1), 1008246);
        x.rate(11, 0, 0);
        due("without the last user", x.weight(0, 1), 1048576);
        x.rate(11, 0, 5);
        // Dot 5, squares 50 and 1.
        due("with a greater one", x.weight(0, 1), 524288);
        x.rate(0, 0, 1);
        // Dot 1, squares 26 and 1: 1048576 / 26 = 40329.8..
        due("with a smaller dot", x.weight(0, 1), 40329);
    }

    private static void wholePart() {
        // Dot 2, squares 2 and 3: 1048576 * 2 / 3 = 699050.6..
        NeighbourScores x = rated(0, 0, 1, 1, 0, 1, 0, 1, 1, 1, 1, 1, 2, 1, 1);
        due("a part above a half", x.weight(0, 1), 699050);
        // The least: dot 1, squares 1 + 25 * 5 and 1 + 25 * 6: 1048576 / 19026 = 55.1..
        NeighbourScores y = new NeighbourScores();
        rateColumn(y, 0, 1, 5, 5, 5, 5, 5);
        rateColumn(y, 1, 1, 0, 0, 0, 0, 0, 5, 5, 5, 5, 5, 5);
        due("the least", y.weight(0, 1), 55);
        due("is in the list", y.neighbour(0, 0), 1);
        // The greatest: dot and squares 300, and a product that is no int.
        NeighbourScores z = allRatedFive();
        due("the greatest", z.weight(0, 15), 1048576);
        due("the greatest", z.weight(15, 14), 1048576);
    }

    private static void noDot() {
        NeighbourScores x = rated(0, 0, 5, 1, 1, 5);
        due("rated by different users", x.weight(0, 1), 0);
        due("one not rated", x.weight(0, 2), 0);
        due("the other not rated", x.weight(2, 0), 0);
        due("neither rated", x.weight(2, 3), 0);
        x.rate(0, 1, 1);
        due("with a dot", x.weight(0, 1), 40329);
        x.rate(0, 1, 0);
        due("without it again", x.weight(0, 1), 0);
    }

    private static void sameItem() {
        NeighbourScores x = rated(0, 0, 5, 0, 1, 5);
        due("weight(0, 1)", x.weight(0, 1), 1048576);
        due("weight(0, 0)", x.weight(0, 0), 0);
        due("weight(2, 2)", x.weight(2, 2), 0);
        due("weight(15, 15) of the fullest", allRatedFive().weight(15, 15), 0);
    }

    private static void listAbove0() {
        NeighbourScores x = rated(0, 0, 5, 0, 15, 1, 1, 7, 5, 1, 8, 2);
        list(x, 0, 15);
        list(x, 15, 0);
        list(x, 7, 8);
        list(x, 3);
        x.rate(0, 15, 0);
        list(x, 0);
        NeighbourScores full = allRatedFive();
        list(full, 0, 1, 2, 3, 4, 5, 6, 7, 8, 9, 10, 11, 12, 13, 14, 15);
        list(full, 15, 0, 1, 2, 3, 4, 5, 6, 7, 8, 9, 10, 11, 12, 13, 14);
    }

    private static void listOrder() {
        NeighbourScores x = new NeighbourScores();
        rateColumn(x, 0, 5, 3, 1, 3, 2, 2, 4);
        rateColumn(x, 1, 2, 0, 5, 4, 5, 5, 0);
        rateColumn(x, 2, 0, 3, 4, 5, 4, 5, 0);
        // 1048576 * 2209 / (68 * 95) = 358561.05.., 1048576 * 2116 / (68 * 91) = 358562.8..
        due("less by one", x.weight(0, 1), 358561);
        due("greater by one", x.weight(0, 2), 358562);
        list(x, 0, 2, 1);
        NeighbourScores y = rated(0, 0, 1, 0, 1, 1, 0, 2, 1, 0, 3, 1, 1, 1, 2, 1, 2, 1, 1, 3, 4);
        // The weights of 0 with 1, 2 and 3: 1/5, 1/2 and 1/17 of the whole.
        list(y, 0, 2, 1, 3);
    }

    private static void listEqual() {
        NeighbourScores x = rated(0, 9, 1, 0, 4, 3, 0, 15, 2, 0, 0, 5);
        list(x, 9, 0, 4, 15);
        list(x, 4, 0, 9, 15);
        list(x, 0, 4, 9, 15);
        // Of the same whole part: 642865.15.. for item 1, 642865.71.. for item 2.
        NeighbourScores y = new NeighbourScores();
        rateColumn(y, 0, 5, 5, 1, 4, 5, 4, 4, 5);
        rateColumn(y, 1, 4, 2, 5, 4, 5, 4, 0, 1);
        rateColumn(y, 2, 0, 5, 4, 4, 0, 4, 5, 5);
        due("weight(0, 1)", y.weight(0, 1), 642865);
        due("weight(0, 2)", y.weight(0, 2), 642865);
        list(y, 0, 1, 2);
    }

    private static void scoreSum() {
        NeighbourScores x = rated(0, 0, 1, 0, 7, 1, 1, 15, 1, 1, 7, 1, 2, 0, 2, 2, 15, 3);
        // 0 and 7: dot 1, squares 5 and 2; 15 and 7: dot 1, squares 10 and 2; 0 and 15: dot 6, squares 5 and 10.
        due("the first and the last item", x.score(2, 7), 2 * 104857 + 3 * 52428);
        due("a rated item", x.score(2, 0), 3 * 754974);
        due("a rated item", x.score(2, 15), 2 * 754974);
        due("an item that nobody rated", x.score(2, 3), 0);
        due("a user without ratings", x.score(3, 7), 0);
        due("the greatest", allRatedFive().score(11, 15), 78643200);
        due("the greatest", allRatedFive().score(0, 0), 78643200);
    }

    private static void bestUnrated() {
        NeighbourScores x = rated(0, 0, 1, 0, 1, 1, 0, 15, 1, 1, 1, 1);
        bests(x, 1, 0, 15);
        x.rate(1, 0, 1);
        bests(x, 1, 15);
        x.rate(1, 15, 1);
        bests(x, 1);
        x.rate(1, 0, 0);
        bests(x, 1, 0);
        bests(x, 0);
        bests(allRatedFive(), 0);
    }

    private static void bestAbove0() {
        NeighbourScores x = rated(0, 0, 1, 0, 15, 1, 1, 7, 1, 2, 3, 1, 11, 15, 5);
        bests(x, 1);
        bests(x, 3);
        bests(x, 11, 0);
        NeighbourScores y = new NeighbourScores();
        for (int i = 0; i < 16; i++) {
            y.rate(0, i, 1);
        }
        y.rate(11, 8, 1);
        bests(y, 11, 0, 1, 2, 3, 4, 5, 6, 7, 9, 10, 11, 12, 13, 14, 15);
    }

    private static void bestOrder() {
        NeighbourScores x = new NeighbourScores();
        rateColumn(x, 0, 5, 3, 1, 3, 2, 2, 4);
        rateColumn(x, 1, 2, 0, 5, 4, 5, 5, 0);
        rateColumn(x, 2, 0, 3, 4, 5, 4, 5, 0);
        x.rate(11, 0, 1);
        // 1048576 * 2209 / (69 * 95) = 353364.5.., 1048576 * 2116 / (69 * 91) = 353366.2..
        due("score of item 1", x.score(11, 1), 353364);
        due("score of item 2", x.score(11, 2), 353366);
        bests(x, 11, 2, 1);
        NeighbourScores y = rated(0, 0, 1, 0, 1, 1, 0, 2, 1, 0, 3, 1, 1, 1, 2, 1, 2, 1, 1, 3, 4, 2, 0, 5);
        // Its square is 26, and the weights of 0 are 1/5, 1/2 and 1/17 of 1/26 of the whole.
        bests(y, 2, 2, 1, 3);
    }

    private static void bestEqual() {
        NeighbourScores x = rated(0, 9, 1, 0, 4, 3, 0, 15, 2, 0, 0, 5, 1, 9, 1);
        bests(x, 1, 0, 4, 15);
        // Equal scores by different items.
        NeighbourScores y = rated(0, 4, 1, 0, 12, 2, 1, 7, 1, 1, 3, 4, 2, 4, 1, 2, 7, 1);
        due("score of item 3", y.score(2, 3), 524288);
        due("score of item 12", y.score(2, 12), 524288);
        bests(y, 2, 3, 12);
    }

    private static void kAtLeast1() {
        NeighbourScores x = rated(0, 0, 3, 0, 2, 1);
        due("reads(0, 1)", x.reads(0, 1), 2);
        due("reads(0, 0)", x.reads(0, 0), BAD);
        due("reads(0, -1)", x.reads(0, -1), BAD);
        due("reads(0, least)", x.reads(0, Integer.MIN_VALUE), BAD);
    }

    private static void ratedLists() {
        NeighbourScores x = rated(0, 0, 3, 0, 2, 1);
        due("user 1 has rated nothing", x.reads(1, 1), 0);
        x.rate(1, 2, 1);
        due("user 1 has rated item 2", x.reads(1, 1), 1);
        x.rate(1, 15, 1);
        // The lists of 2 (0 and 15) and of 15 (2 alone); that of 0 (2 alone) is not read.
        due("and item 15", x.reads(1, 16), 3);
        x.rate(1, 2, 0);
        x.rate(1, 15, 0);
        due("and none of them", x.reads(1, 16), 0);
    }

    private static void rounds() {
        // The lists: 0 (2, 3) and 2 (0); behind round 2 item 3 has just the limit.
        NeighbourScores x = rated(0, 0, 3, 0, 2, 3, 1, 0, 1, 1, 3, 1);
        list(x, 0, 2, 3);
        list(x, 2, 0);
        due("the second list has no second entry", x.reads(0, 1), 3);
        NeighbourScores full = allRatedFive();
        due("all lists have 15 entries", full.reads(11, 1), 240);
        due("all lists have 15 entries", full.reads(0, 16), 240);
    }

    private static void limit() {
        // The lists: 0 (1, 2), of weight 1/2, and 2 (0), of weight 1/2; user 0 rates them 3 and 5.
        NeighbourScores x = rated(0, 0, 3, 0, 2, 5, 1, 0, 3, 1, 1, 1);
        // Item 1 scores 3/2; behind round 2 the limit is 3/2 for item 2 in the first list.
        due("each weight by its rating", x.reads(0, 1), 3);
        // The lists: 0 (4: 943718, 5: 377487) and 5 (0: 377487, 4: 104857), rated 1 and 3.
        NeighbourScores y = rated(0, 0, 1, 0, 5, 3, 1, 0, 3, 1, 4, 2, 1, 5, 1);
        // Behind round 1 the limit is 943718 + 3 * 377487, over the 943718 + 3 * 104857 of item 4.
        due("the sum over the lists", y.reads(0, 1), 4);
    }

    private static void limitOfShort() {
        // The lists: 0 (2, 3: 838860; 1, 4: 209715), 1 (4, 0) and 4 (1, 0), rated 1, 3 and 1.
        NeighbourScores x = rated(0, 0, 1, 0, 1, 3, 0, 4, 1, 1, 0, 2, 1, 2, 1, 1, 3, 5);
        list(x, 0, 2, 3, 1, 4);
        list(x, 1, 4, 0);
        list(x, 4, 1, 0);
        // Behind round 3 the limit is 209715 by the list of 0 alone: 2 and 3, 838860 each, are over it.
        due("two lists have ended", x.reads(0, 1), 7);
        due("two lists have ended", x.reads(0, 2), 7);
        due("all lists have ended", x.reads(0, 3), 8);
    }

    private static void allEnds() {
        // The lists: 0 (2, 3) and 3 (0), of weight 1/2, rated 2 and 5; item 2 scores the last limit.
        NeighbourScores x = rated(0, 0, 2, 0, 3, 5, 1, 0, 2, 1, 2, 5);
        list(x, 0, 2, 3);
        list(x, 3, 0);
        due("not before the longest has ended", x.reads(0, 1), 3);
        due("and then with less than k", x.reads(0, 16), 3);
    }

    private static void atLeastK() {
        // The lists: 1 (4, 2), 2 (0, 1, 4) and 4 (1, 2); of the items read user 1 has not rated 0.
        NeighbourScores x = rated(0, 0, 1, 0, 2, 5, 1, 1, 1, 1, 2, 1, 1, 4, 2);
        // Item 0, 1008246, is over the limit behind round 2, 40329 + 40329 + 2 * 40329.
        due("just k", x.reads(1, 1), 6);
        due("less than k", x.reads(1, 2), 7);
        // One list, of item 0: 1 and 2 (1/2 of the whole), 3 (1/4), 4 (1/10).
        NeighbourScores y = fourEntries();
        due("two at once, k 1", y.reads(4, 1), 3);
        due("two at once, k 2", y.reads(4, 2), 3);
        due("three", y.reads(4, 3), 4);
        due("four are never over it", y.reads(4, 4), 4);
        due("k 16", y.reads(4, 16), 4);
        // Items that stand in several lists count once: 2 and 4 in those of 1 and of 3.
        NeighbourScores z = rated(1, 0, 1, 1, 1, 2, 1, 3, 5, 3, 1, 5, 3, 2, 1, 3, 3, 1, 3, 4, 1);
        list(z, 0, 3, 1);
        list(z, 1, 2, 4, 3, 0);
        list(z, 3, 0, 1, 2, 4);
        due("an item counts once, k 2", z.reads(1, 2), 8);
        due("an item counts once, k 3", z.reads(1, 3), 10);
    }

    /** User 4 has rated item 0 alone, whose list is 1 and 2 of one weight, and 3 and 4 of less. */
    private static NeighbourScores fourEntries() {
        NeighbourScores x = rated(0, 0, 1, 0, 1, 1, 0, 2, 1, 0, 3, 1, 0, 4, 1, 1, 3, 1, 1, 4, 2, 4, 0, 1);
        due("weight(0, 1)", x.weight(0, 1), 524288);
        due("weight(0, 2)", x.weight(0, 2), 524288);
        due("weight(0, 3)", x.weight(0, 3), 262144);
        due("weight(0, 4)", x.weight(0, 4), 104857);
        return x;
    }

    private static void notRated() {
        // The lists: 0 (2: 725937, 1 and 3: 322638), 1 (3, 0) and 3 (1, 0), rated 2, 5 and 1.
        NeighbourScores x = rated(0, 0, 2, 0, 1, 5, 0, 3, 1, 1, 0, 3, 1, 2, 1);
        // Behind round 2 the limit is 8 * 322638, under the score of 3 but not under that of 2;
        // behind round 3 it is 2 * 322638, under that of 2 as well.
        due("score of the rated 3", x.score(0, 3), 2 * 322638 + 5 * 1048576);
        due("rated ones do not count", x.reads(0, 1), 7);
    }

    private static void readSoFar() {
        // The lists: 0 (3, 1, 2), 1 (2, 0) and 2 (1, 0); item 3 is read in round 1 alone.
        NeighbourScores x = rated(0, 0, 1, 0, 1, 2, 0, 2, 1, 1, 0, 5, 1, 3, 2);
        list(x, 0, 3, 1, 2);
        // Behind round 1 the limit is over its score, behind round 2 under it.
        due("also in a round before", x.reads(0, 1), 6);
        // User 2's list of 0 is 4 (466033) and 3 (116508), and its rating of 0 is 2; behind round 2 4 is over
        // the limit. User 0 has rated 0 and 3 with 1: 4 is not over the 466033 + 116508 of round 1.
        NeighbourScores y = rated(0, 0, 1, 0, 3, 1, 1, 0, 2, 1, 4, 1, 2, 0, 2);
        list(y, 0, 4, 3);
        due("user 2's", y.reads(2, 1), 2);
        due("what was read for another user does not count", y.reads(0, 1), 3);
    }

    private static void aboveLimit() {
        // The list of 2: 3 and 5, both of weight 25/29; user 1 rates 2 with 2.
        NeighbourScores x = rated(0, 2, 5, 0, 3, 1, 0, 5, 3, 1, 2, 2);
        list(x, 2, 3, 5);
        due("equal to the limit is not over it", x.reads(1, 1), 2);
        NeighbourScores y = fourEntries();
        due("the next less weight is the limit", y.reads(4, 1), 3);
        // The list of 0: 1 (691151), 2 (691150), 3 (2880); user 11 has rated 0 with 1.
        NeighbourScores z = rated(11, 0, 1, 9, 3, 5, 0, 3, 1);
        rateColumn(z, 0, 3, 5, 5, 5, 5, 4);
        rateColumn(z, 1, 0, 0, 4, 3, 3, 5);
        rateColumn(z, 2, 5, 3, 2, 5, 0, 4);
        due("score of item 1", z.score(11, 1), 691151);
        due("score of item 2", z.score(11, 2), 691150);
        list(z, 0, 1, 2, 3);
        due("over the limit by one", z.reads(11, 1), 2);
        due("the second over it a round later", z.reads(11, 2), 3);
    }

    private static void noRound() {
        NeighbourScores x = new NeighbourScores();
        due("nothing rated by anybody", x.reads(0, 1), 0);
        x.rate(0, 0, 5);
        due("a list without entries", x.reads(0, 1), 0);
        due("a list without entries", x.reads(0, 16), 0);
        x.rate(1, 15, 5);
        due("lists without entries", x.reads(1, 1), 0);
        due("no lists", x.reads(11, 1), 0);
    }

    private static void disk() {
        NeighbourScores x = new NeighbourScores();
        due("spoil(0)", x.spoil(0, Integer.MIN_VALUE), true);
        due("spoil(171)", x.spoil(171, Integer.MAX_VALUE), true);
        due("word(0)", x.word(0), Integer.MIN_VALUE);
        due("word(171)", x.word(171), Integer.MAX_VALUE);
        due("spoil(-1)", x.spoil(-1, 1), false);
        due("spoil(172)", x.spoil(172, 1), false);
        due("word(-1)", x.word(-1), 0);
        due("word(172)", x.word(172), 0);
    }

    /** The numbers are worked out apart from Java, by whole numbers of any size. */
    private static void wrap() {
        NeighbourScores x = rated(11, 15, 5, 0, 0, 5);
        due("check of 25 times 0", x.word(25), -1307569109);
        due("check of 1 and 11155", x.word(57), -1643294493);
        due("check of 2 and 5", x.word(60), 1056785635);
        due("snapshot", x.snapshot(), 26);
        due("check of the snapshot", x.word(51), 1140870977);
    }

    /** With a sign coming in instead of zeros, each of these would be another. */
    private static void shift() {
        int[] checks = {-2128643535, -2081422983, 1710111149, -1856485043, -257430647, 2125093127, 1621643641,
            -1944972911, -255614183, 1946243049, 900701279, 1448448229};
        for (int k = 0; k < checks.length; k++) {
            due("check of 1 and " + (1010 * k + 1), rated(k, k, 1).word(57), checks[k]);
        }
    }

    private static void packed() {
        NeighbourScores x = rated(0, 0, 1, 0, 7, 5, 0, 8, 2, 0, 15, 3, 11, 0, 4, 11, 7, 1, 11, 8, 3, 11, 15, 5, 6, 3, 2);
        due("snapshot", x.snapshot(), 26);
        for (int k = 1; k <= 24; k++) {
            int want = k == 1 ? 0x50000001 : k == 2 ? 0x30000002 : k == 23 ? 0x10000004 : k == 24 ? 0x50000003
                    : k == 13 ? 0x2000 : 0;
            due("word " + k + " of the snapshot", x.word(26 + k), want);
        }
        NeighbourScores full = allRatedFive();
        due("snapshot", full.snapshot(), 26);
        for (int k = 1; k <= 24; k++) {
            due("word " + k + " of the fullest", full.word(k), 0x55555555);
        }
        due("restart", full.restart(), 0);
        numbers(full, 1, 1, 192);
    }

    private static void snapshotCheck() {
        // Of numbers 0 .. 7 and no ratings, with bit 0 of h on some times and off at others.
        boolean[] seen = new boolean[2];
        for (int n = 0; n < 8; n++) {
            NeighbourScores x = new NeighbourScores();
            for (int k = 0; k < n; k++) {
                x.rate(0, 0, 0);
            }
            due("snapshot", x.snapshot(), 26);
            int[] words = new int[25];
            words[0] = n;
            due("check of number " + n, x.word(51), checkOf(1, words));
            due("bit 0", x.word(51) & 1, 1);
            seen[hashOf(1, words) & 1] = true;
        }
        due("off before it was set", seen[0], true);
        due("on before it was set", seen[1], true);
        due("off before it was set, in a new object's", hashOf(1, new int[25]) & 1, 0);
    }

    private static int hashOf(int seed, int... words) {
        int h = seed;
        for (int x : words) {
            int y = (h ^ x) * 668265263 + 374761393;
            h = y ^ (y >>> 15);
        }
        return h;
    }

    private static void snapshotPlaces() {
        NeighbourScores x = rated(0, 0, 1);
        int before = x.word(25);
        due("snapshot", x.snapshot(), 26);
        due("the first one's last word", x.word(25), before);
        due("the second one's first word", x.word(26), 1);
        due("the second one's last word", x.word(51), checkOf(1, snapshotWords(1, 1)));
        due("the first record's word", x.word(52), 0);
        due("snapshot", x.snapshot(), 26);
        due("the first one's first word", x.word(0), 1);
        due("the first one's last word", x.word(25), checkOf(1, snapshotWords(1, 1)));
        due("the second one's first word", x.word(26), 1);
    }

    private static int[] snapshotWords(int number, int firstRatings) {
        int[] words = new int[25];
        words[0] = number;
        words[1] = firstRatings;
        return words;
    }

    private static void recordWords() {
        NeighbourScores x = rated(0, 0, 0, 0, 0, 5, 0, 15, 5, 11, 0, 1, 11, 15, 5);
        int[] contents = {0, 5, 155, 11001, 11155};
        for (int n = 1; n <= contents.length; n++) {
            due("number of " + n, x.word(52 + 3 * n), n);
            due("content of " + n, x.word(53 + 3 * n), contents[n - 1]);
            due("check of " + n, x.word(54 + 3 * n), checkOf(2, n, contents[n - 1]));
        }
        due("behind them", x.word(70), 0);
    }

    private static void recordCheck() {
        NeighbourScores x = rated(0, 0, 0, 0, 0, 0);
        due("off before it was set", hashOf(2, 1, 0), 1497972302);
        due("check of 1 and 0", x.word(57), 1497972303);
        due("on before it was set", hashOf(2, 2, 0), 103144783);
        due("check of 2 and 0", x.word(60), 103144783);
    }

    private static void ring() {
        NeighbourScores x = filled(38);
        due("39", x.rate(11, 15, 5), 0);
        due("39 stands last", x.word(169), 39);
        due("39 stands last", x.word(170), 11155);
        due("39 stands last", x.word(171), 399745421);
        due("nothing stands first", x.word(52), 0);
        x.rate(0, 0, 0);
        due("40 stands first", x.word(52), 40);
        due("40 stands first", x.word(53), 0);
        due("40 stands first", x.word(54), -501670317);
        due("1 stands second", x.word(55), 1);
        x.snapshot();
        due("41", x.rate(11, 15, 4), 5);
        due("41 stands second", x.word(55), 41);
        due("41 stands second", x.word(56), 11154);
        due("2 stands third", x.word(58), 2);
        for (int n = 42; n <= 80; n++) {
            x.rate(0, 0, n % 6);
            due("place of " + n, x.word(52 + 3 * (n < 80 ? n - 40 : 0)), n);
        }
        NeighbourScores y = new NeighbourScores();
        laySnapshot(y, 1, 1000000000, new int[24], true);
        y.restart();
        y.rate(0, 0, 5);
        due("1000000001 stands second", y.word(55), 1000000001);
        due("1000000001 stands second", y.word(56), 5);
        due("1000000001 stands second", y.word(57), -1014078843);
    }

    private static void atFirst() {
        NeighbourScores x = new NeighbourScores();
        for (int a = 0; a < DISK_WORDS; a++) {
            due("word(" + a + ")", x.word(a), a == 25 ? -1307569109 : 0);
        }
        // The first is good, and the second is not: with the first gone, a snapshot goes over the second.
        due("snapshot", x.snapshot(), 26);
        due("over the second", x.word(51), -1307569109);
        NeighbourScores y = rated(0, 0, 1);
        laySnapshot(y, 1, 0, snapshotOfAll(5), true);
        due("restart", y.restart(), 1);
        due("the first one was right, and taken", y.number(2), 1);
    }

    private static int[] snapshotOfAll(int r) {
        int[] words = new int[24];
        for (int k = 0; k < 24; k++) {
            words[k] = r * 0x11111111;
        }
        return words;
    }

    private static void number0() {
        NeighbourScores x = new NeighbourScores();
        numbers(x, 0, 0, 0);
        due("restart", x.restart(), 0);
        numbers(x, 0, 0, 0);
        x.rate(0, 0, 1);
        numbers(x, 1, 0, 1);
        due("word(55)", x.word(55), 1);
    }

    private static void noFailure() {
        NeighbourScores x = new NeighbourScores();
        for (int n = 1; n <= 120; n++) {
            due("rate " + n, x.rate(0, 0, 5), n == 1 ? 0 : 5);
            if (n % 40 == 0) {
                due("snapshot", x.snapshot(), 26);
            }
        }
        due("is on", x.isOn(), true);
        numbers(x, 120, 120, 1);
    }

    private static void rising() {
        for (int n = 0; n < 3; n++) {
            NeighbourScores x = rated(5, 6, 3);
            x.power(n);
            due("rate", x.rate(5, 6, 4), OFF);
            int[] whole = {2, 5064, checkOf(2, 2, 5064)};
            for (int k = 0; k < 3; k++) {
                due("word " + k + " of the record after " + n, x.word(58 + k), k < n ? whole[k] : 0);
            }
        }
        int[] words = snapshotWords(1, 0);
        words[11] = 0x03000000;
        for (int n = 0; n < 26; n++) {
            NeighbourScores x = rated(5, 6, 3);
            for (int k = 0; k < 26; k++) {
                x.spoil(26 + k, 1000 + k);
            }
            x.power(n);
            due("snapshot", x.snapshot(), OFF);
            for (int k = 0; k < 26; k++) {
                int whole = k == 25 ? checkOf(1, words) : words[k];
                due("word " + k + " of the snapshot after " + n, x.word(26 + k), k < n ? whole : 1000 + k);
            }
        }
    }

    private static void nextN() {
        NeighbourScores x = new NeighbourScores();
        x.power(100);
        for (int n = 1; n <= 22; n++) {
            due("rate " + n, x.rate(0, 0, 1), n == 1 ? 0 : 1);
        }
        due("snapshot of the words 67 to 92", x.snapshot(), 26);
        due("words 93 to 95", x.rate(0, 0, 2), 1);
        due("words 96 to 98", x.rate(0, 0, 3), 2);
        due("words 99 and 100", x.rate(0, 0, 4), OFF);
        due("word 99", x.word(52 + 3 * 25), 25);
        due("word 100", x.word(53 + 3 * 25), 4);
        due("no word 101", x.word(54 + 3 * 25), 0);
        due("restart", x.restart(), 2);
        numbers(x, 24, 22, 1);
    }

    private static void goesOff() {
        NeighbourScores x = new NeighbourScores();
        x.power(3);
        due("rate with words enough", x.rate(0, 1, 4), 0);
        due("on before the next word", x.isOn(), true);
        due("asking writes no word", x.rating(0, 1), 4);
        due("a bad one writes no word", x.rate(0, 16, 4), BAD);
        due("on before the next word", x.isOn(), true);
        due("rate without", x.rate(0, 2, 4), OFF);
        due("off", x.isOn(), false);
        due("nothing written", x.word(58), 0);
        NeighbourScores y = new NeighbourScores();
        y.power(26);
        due("snapshot with words enough", y.snapshot(), 26);
        due("on before the next word", y.isOn(), true);
        due("snapshot without", y.snapshot(), OFF);
        due("off", y.isOn(), false);
        NeighbourScores z = new NeighbourScores();
        z.power(0);
        due("on before the first word", z.isOn(), true);
        due("the first word", z.snapshot(), OFF);
        due("off", z.isOn(), false);
    }

    private static void restartPower() {
        NeighbourScores x = new NeighbourScores();
        x.power(1);
        due("restart when it is on", x.restart(), 0);
        due("on", x.isOn(), true);
        due("does not fail", x.rate(0, 0, 1), 0);
        due("does not fail", x.snapshot(), 26);
        off(x);
        due("off", x.isOn(), false);
        due("restart when it is off", x.restart(), 0);
        due("on", x.isOn(), true);
        due("does not fail", x.rate(0, 0, 2), 1);
        due("does not fail", x.snapshot(), 26);
    }

    private static void goodCheck() {
        for (int k = 0; k < 26; k++) {
            NeighbourScores x = filled(9);
            x.snapshot();
            x.spoil(26 + k, x.word(26 + k) ^ 1);
            due("restart with a wrong word " + k, x.restart(), 9);
            due("base with a wrong word " + k, x.number(1), 0);
            x.spoil(26 + k, x.word(26 + k) ^ 1);
            due("restart with word " + k + " mended", x.restart(), 0);
            due("base with word " + k + " mended", x.number(1), 9);
        }
        for (int bit = 0; bit < 32; bit++) {
            NeighbourScores x = filled(9);
            x.snapshot();
            x.spoil(51, x.word(51) ^ (1 << bit));
            due("restart with a wrong bit " + bit, x.restart(), 9);
        }
    }

    private static void goodNumber() {
        due("0", isGoodNumber(0), true);
        due("1000000000", isGoodNumber(1000000000), true);
        due("-1", isGoodNumber(-1), false);
        due("1000000001", isGoodNumber(1000000001), false);
        due("the least", isGoodNumber(Integer.MIN_VALUE), false);
        due("the greatest", isGoodNumber(Integer.MAX_VALUE), false);
    }

    /** Whether the only snapshot with a right check is taken when it has this number. */
    private static boolean isGoodNumber(int number) {
        NeighbourScores x = new NeighbourScores();
        x.spoil(25, 0);
        laySnapshot(x, 1, number, snapshotOfAll(2), true);
        due("restart", x.restart(), 0);
        boolean taken = x.number(2) == 192;
        numbers(x, taken ? number : 0, taken ? number : 0, taken ? 192 : 0);
        return taken;
    }

    private static void greaterTaken() {
        due("7 and 6", takenOf(7, 6), 1);
        due("6 and 7", takenOf(6, 7), 2);
        due("0 and 1", takenOf(0, 1), 2);
        due("1 and 0", takenOf(1, 0), 1);
        due("999999999 and 1000000000", takenOf(999999999, 1000000000), 2);
        due("1000000000 and 999999999", takenOf(1000000000, 999999999), 1);
        due("5 and one that is not good", takenOf(5, 1000000001), 1);
        due("one that is not good and 5", takenOf(1000000001, 5), 2);
        due("0 and one that is not good", takenOf(0, -1), 1);
        due("one that is not good and 0", takenOf(-1, 0), 2);
    }

    private static void equalTaken() {
        due("7 and 7", takenOf(7, 7), 1);
        due("0 and 0", takenOf(0, 0), 1);
        due("1000000000 and 1000000000", takenOf(1000000000, 1000000000), 1);
    }

    /** Answers which of two snapshots with these numbers a restart takes. */
    private static int takenOf(int first, int second) {
        NeighbourScores x = new NeighbourScores();
        laySnapshot(x, 0, first, snapshotOfAll(1), true);
        laySnapshot(x, 1, second, snapshotOfAll(2), true);
        due("restart", x.restart(), 0);
        int taken = x.rating(11, 15);
        numbers(x, taken == 2 ? second : first, taken == 2 ? second : first, 192);
        return taken;
    }

    private static void above5() {
        NeighbourScores x = new NeighbourScores();
        int[] words = new int[24];
        words[0] = 0x76543210;
        words[1] = 0xFEDCBA98;
        words[22] = 0x01234567;
        words[23] = 0x89ABCDEF;
        words[10] = 0x66666665;
        words[11] = 0x56666666;
        laySnapshot(x, 1, 30, words, true);
        due("restart", x.restart(), 0);
        for (int i = 0; i < 16; i++) {
            due("rating(0, " + i + ")", x.rating(0, i), i <= 5 ? i : 0);
            due("rating(11, " + i + ")", x.rating(11, i), i >= 2 && i < 8 ? 7 - i : 0);
            due("rating(5, " + i + ")", x.rating(5, i), i == 0 || i == 15 ? 5 : 0);
        }
        numbers(x, 30, 30, 12);
        due("weight with those that count as 0", x.weight(6, 15), 0);
    }

    private static void baseToo() {
        NeighbourScores x = filled(20);
        x.snapshot();
        x.rate(0, 0, 1);
        due("restart", x.restart(), 1);
        due("number", x.number(0), 21);
        due("base", x.number(1), 20);
        laySnapshot(x, 0, 500, new int[24], true);
        due("restart", x.restart(), 0);
        numbers(x, 500, 500, 0);
        for (int n = 1; n <= 40; n++) {
            due("rate", x.rate(0, 0, 1), n == 1 ? 0 : 1);
        }
        due("full by the base", x.rate(0, 0, 1), FULL);
    }

    private static void noneGood() {
        NeighbourScores x = filled(12);
        x.rate(0, 15, 5);
        x.rate(0, 0, 5);
        x.rate(11, 0, 5);
        x.snapshot();
        x.spoil(25, 0);
        x.spoil(51, 0);
        x.spoil(55, 0);
        due("restart", x.restart(), 0);
        numbers(x, 0, 0, 0);
        for (int u = 0; u < 12; u++) {
            for (int i = 0; i < 16; i++) {
                due("rating(" + u + ", " + i + ")", x.rating(u, i), 0);
            }
        }
        due("weight(0, 15)", x.weight(0, 15), 0);
        list(x, 0);
        bests(x, 0);
        x.rate(3, 0, 1);
        due("the first record again", x.word(55), 1);
        due("its rating behind the old records", x.restart(), 15);
    }

    private static void recordNumber() {
        for (int other : new int[] {-39, -1, 0, 2, 8, 41, 81, Integer.MIN_VALUE, Integer.MAX_VALUE}) {
            NeighbourScores x = new NeighbourScores();
            x.spoil(55, other);
            x.spoil(56, 15);
            x.spoil(57, checkOf(2, other, 15));
            due("restart with a record of number " + other, x.restart(), 0);
            due("not done", x.rating(0, 1), 0);
            layRecord(x, 1, 15);
            due("restart with a record of number 1", x.restart(), 1);
            due("done", x.rating(0, 1), 5);
        }
        NeighbourScores x = filled(40);
        x.snapshot();
        due("the one of 40 before is not done", x.restart(), 0);
        x.rate(0, 0, 1);
        due("the one behind the snapshot alone", x.restart(), 1);
        numbers(x, 41, 40, 41);
    }

    private static void recordRight() {
        for (int bit = 0; bit < 32; bit++) {
            NeighbourScores x = rated(0, 1, 5);
            x.spoil(57, x.word(57) ^ (1 << bit));
            due("restart with a wrong bit " + bit, x.restart(), 0);
            due("not done", x.rating(0, 1), 0);
        }
        NeighbourScores x = rated(0, 1, 5);
        x.spoil(56, 14);
        due("restart with another rating", x.restart(), 0);
        due("not done", x.rating(0, 1), 0);
        x.spoil(56, 15);
        due("restart with the right one", x.restart(), 1);
        due("done", x.rating(0, 1), 5);
    }

    private static void recordNames() {
        int[] wrongs = {6, 9, 16, 19, 156, 159, 160, 165, 990, 999, 1006, 1156, 1160, 11006, 11156, 11160, 11999,
            12000, 12155, 13000, 100000, -1, -5, -10, -995, -1000, -11155, Integer.MIN_VALUE, Integer.MAX_VALUE};
        for (int content : wrongs) {
            NeighbourScores x = new NeighbourScores();
            layRecord(x, 1, content);
            due("restart with " + content, x.restart(), 0);
            numbers(x, 0, 0, 0);
        }
        int[] rights = {1, 5, 11, 15, 151, 155, 1001, 1155, 11001, 11155};
        for (int content : rights) {
            NeighbourScores x = new NeighbourScores();
            layRecord(x, 1, content);
            due("restart with " + content, x.restart(), 1);
            due("its rating", x.rating(content / 1000, content % 1000 / 10), content % 10);
            numbers(x, 1, 0, 1);
        }
        NeighbourScores x = rated(11, 15, 3, 0, 0, 4);
        layRecord(x, 3, 11150);
        layRecord(x, 4, 0);
        due("restart with ratings of 0", x.restart(), 4);
        numbers(x, 4, 0, 0);
    }

    private static void asLongAs() {
        NeighbourScores x = filled(10);
        int kept = x.word(52 + 3 * 5);
        x.spoil(52 + 3 * 5, 0);
        due("up to the gap", x.restart(), 4);
        numbers(x, 4, 0, 4);
        x.spoil(52 + 3 * 5, kept);
        due("without the gap", x.restart(), 10);
        x.spoil(52 + 3 * 1, 0);
        due("with a gap at once", x.restart(), 0);
        numbers(x, 0, 0, 0);
    }

    private static void recordDone() {
        NeighbourScores x = rated(0, 1, 5, 0, 2, 4);
        x.rate(0, 1, 2);
        due("restart", x.restart(), 3);
        due("the later one counts", x.rating(0, 1), 2);
        numbers(x, 3, 0, 2);
        // dot 8, squares 4 and 16
        due("weight", x.weight(1, 2), 1048576);
        x.rate(0, 1, 0);
        due("restart", x.restart(), 4);
        numbers(x, 4, 0, 1);
        due("the next record's place", x.rate(1, 1, 1), 0);
        due("the next record's number", x.word(52 + 3 * 5), 5);
    }

    private static void atMost40() {
        for (int base : new int[] {0, 37, 39, 40, 999999999, 1000000000}) {
            NeighbourScores x = new NeighbourScores();
            laySnapshot(x, 1, base, new int[24], true);
            for (int n = 1; n <= 40; n++) {
                layRecord(x, base + n, 1000 * (n % 12) + 10 * (n % 16) + 1);
            }
            due("restart", x.restart(), 40);
            numbers(x, base + 40, base, 40);
            layRecord(x, base + 41, 11155);
            due("restart with one more in the first one's place", x.restart(), 0);
            numbers(x, base, base, 0);
        }
    }

    private static void allOff() {
        NeighbourScores x = filled(40);
        off(x);
        answersOff(x);
        due("isOn", x.isOn(), false);
        due("power(100)", x.power(100), true);
        answersOff(x);
        due("power(101)", x.power(101), false);
        due("spoil(171)", x.spoil(171, 8), true);
        due("spoil(172)", x.spoil(172, 8), false);
        due("word(171)", x.word(171), 8);
        due("word(172)", x.word(172), 0);
        due("still off", x.isOn(), false);
        due("restart", x.restart(), 38);
        due("on", x.isOn(), true);
    }

    private static void answersOff(NeighbourScores x) {
        for (int e : new int[] {0, 1, 99, -1, Integer.MIN_VALUE, Integer.MAX_VALUE}) {
            due("rate", x.rate(e, e, e), OFF);
            due("snapshot", x.snapshot(), OFF);
            due("rating", x.rating(e, e), OFF);
            due("weight", x.weight(e, e), OFF);
            due("neighbour", x.neighbour(e, e), OFF);
            due("score", x.score(e, e), OFF);
            due("best", x.best(e, e), OFF);
            due("reads", x.reads(e, e), OFF);
            due("share", x.share(e, e, e), OFF);
            due("number", x.number(e), OFF);
        }
    }

    /** Two objects, one of them with the refused calls, must be the same in all that can be asked behind them. */
    private static void refused() {
        sameAsWithout("when it is on", 3, x -> {
            for (int e : EDGES) {
                due("rate", x.rate(e, 0, 1), BAD);
                due("rate", x.rate(0, e, 1), BAD);
                due("rate", x.rate(0, 0, e), BAD);
                due("power", x.power(e == -1 ? -2 : e == 16 || e == 17 ? 101 : e), false);
                due("spoil", x.spoil(e == 16 || e == 17 ? DISK_WORDS : e, 1), false);
            }
        });
        sameAsWithout("for asking", 3, x -> {
            for (int e : EDGES) {
                due("rating", x.rating(e, e), BAD);
                due("weight", x.weight(e, e), BAD);
                due("neighbour", x.neighbour(e, e), BAD);
                due("neighbour", x.neighbour(0, e), NONE);
                due("score", x.score(e, e), BAD);
                due("best", x.best(e, e), BAD);
                due("best", x.best(0, e), NONE);
                due("reads", x.reads(e, 1), BAD);
                due("reads", x.reads(0, e == 16 ? 0 : e), BAD);
                due("share", x.share(e, e, e), BAD);
                due("number", x.number(e), BAD);
            }
        });
        sameAsWithout("when it is full", 40, x -> {
            due("rate", x.rate(0, 0, 1), FULL);
            due("rate", x.rate(1, 1, 0), FULL);
        });
        sameAsWithout("when it is off", 39, x -> {
            x.power(0);
            due("rate", x.rate(0, 0, 1), OFF);
            due("rate", x.rate(0, 0, 2), OFF);
            due("snapshot", x.snapshot(), OFF);
            due("number", x.number(0), OFF);
            x.restart();
            x.power(7);
        });
    }

    private static void sameAsWithout(String when, int records, Consumer<NeighbourScores> calls) {
        int[] with = answersBehind(records, calls);
        int[] without = answersBehind(records, x -> { });
        for (int k = 0; k < with.length; k++) {
            due(when + ", answer " + k, with[k], without[k]);
        }
    }

    private static int[] answersBehind(int records, Consumer<NeighbourScores> calls) {
        NeighbourScores x = filled(records);
        x.power(7);
        calls.accept(x);
        int[] answers = new int[DISK_WORDS + 192 + 14];
        int count = 0;
        for (int how = 0; how < 3; how++) {
            answers[count++] = x.number(how);
        }
        answers[count++] = x.rate(3, 3, 2);
        answers[count++] = x.isOn() ? 1 : 0;
        answers[count++] = x.snapshot();
        answers[count++] = x.isOn() ? 1 : 0;
        for (int a = 0; a < DISK_WORDS; a++) {
            answers[count++] = x.word(a);
        }
        answers[count++] = x.restart();
        for (int how = 0; how < 3; how++) {
            answers[count++] = x.number(how);
        }
        for (int k = 0; k < 192; k++) {
            answers[count++] = x.rating(k / 16, k % 16);
        }
        answers[count++] = x.weight(1, 2);
        answers[count++] = x.neighbour(3, 0);
        answers[count++] = x.best(3, 0);
        return answers;
    }

    private static void refusedButWords() {
        NeighbourScores x = filled(5);
        x.power(2);
        due("rate", x.rate(6, 6, 5), OFF);
        due("it went off", x.isOn(), false);
        due("the first word", x.word(52 + 3 * 6), 6);
        due("the second word", x.word(53 + 3 * 6), 6065);
        due("not the third", x.word(54 + 3 * 6), 0);
        due("restart", x.restart(), 5);
        due("not set", x.rating(6, 6), 0);
        numbers(x, 5, 0, 5);
        x.power(25);
        due("snapshot", x.snapshot(), OFF);
        due("it went off", x.isOn(), false);
        due("its number", x.word(26), 5);
        due("not its check", x.word(51), 0);
        due("restart", x.restart(), 5);
        numbers(x, 5, 0, 5);
    }

    private static void namedFirst() {
        NeighbourScores x = filled(40);
        x.power(0);
        due("bad before full, no user", x.rate(12, 0, 1), BAD);
        due("bad before full, no item", x.rate(0, 16, 1), BAD);
        due("bad before full, no rating", x.rate(0, 0, 6), BAD);
        due("full before the power goes off", x.rate(0, 0, 1), FULL);
        due("on", x.isOn(), true);
        due("no item before no entry", x.neighbour(16, 99), BAD);
        due("no user before no number", x.best(12, 99), BAD);
        NeighbourScores y = filled(39);
        y.power(0);
        due("bad before the power goes off", y.rate(0, 0, 6), BAD);
        due("on", y.isOn(), true);
        due("the power goes off", y.rate(0, 0, 5), OFF);
        off(x);
        for (NeighbourScores one : new NeighbourScores[] {x, y}) {
            due("off before bad and full", one.rate(12, 16, 6), OFF);
            due("off before full", one.rate(0, 0, 1), OFF);
            due("off before bad", one.rating(12, 16), OFF);
            due("off before bad", one.weight(16, 16), OFF);
            due("off before bad", one.neighbour(16, 0), OFF);
            due("off before none", one.neighbour(0, 99), OFF);
            due("off before bad", one.score(12, 16), OFF);
            due("off before bad", one.best(12, 0), OFF);
            due("off before none", one.best(0, 99), OFF);
            due("off before bad", one.reads(12, 17), OFF);
            due("off before bad", one.share(12, 16, 16), OFF);
            due("off before bad", one.number(3), OFF);
        }
    }
}
