import java.util.List;

/** A test of its own for each sentence under 'Promise 1' to 'Promise 16' that names a boundary case. */
public final class PromiseBoundaryTest extends TestBench {

    private static final List<Case> CASES = List.of(
            new Case("1-new", "`NeighbourScores()`: No ratings, the disk as said.", PromiseBoundaryTest::newObject),
            new Case("2-record", "Writes the record with the system's number and one more for this user, item and rating (0 .. 5)",
                    PromiseBoundaryTest::rateRecord),
            new Case("2-all", "if all of it was written, the system's number is that one, and the rating is set",
                    PromiseBoundaryTest::rateAll),
            new Case("2-before", "Answers the rating that was there before.", PromiseBoundaryTest::rateBefore),
            new Case("2-off-bad", "OFF; BAD; FULL when", PromiseBoundaryTest::rateOffBad),
            new Case("2-full", "FULL when the system's number is 40 more than the base", PromiseBoundaryTest::rateFull),
            new Case("2-goes-off", "OFF when the power goes off: the rating is not set.", PromiseBoundaryTest::rateGoesOff),
            new Case("3-not-good", "in place of the one that is not good", PromiseBoundaryTest::snapshotNotGood),
            new Case("3-lesser", "or has the lesser number", PromiseBoundaryTest::snapshotLesser),
            new Case("3-now", "by what stands on the disk now", PromiseBoundaryTest::snapshotNow),
            new Case("3-equal", "(of equal ones, and when none is good, the second)", PromiseBoundaryTest::snapshotEqual),
            new Case("3-none-good", "and when none is good, the second)", PromiseBoundaryTest::snapshotNoneGood),
            new Case("3-base", "if all of it was written, the base is the system's number", PromiseBoundaryTest::snapshotBase),
            new Case("3-count", "Answers the number of words written.", PromiseBoundaryTest::snapshotCount),
            new Case("3-off", "OFF, also when the power goes off.", PromiseBoundaryTest::snapshotOff),
            new Case("3-above", "Writes a snapshot of the system's number and ratings", PromiseBoundaryTest::snapshotAbove),
            new Case("4-now-on", "The power is to fail after n words from now on", PromiseBoundaryTest::powerFromNowOn),
            new Case("4-minus-1", "or not at all when n is -1", PromiseBoundaryTest::powerMinus1),
            new Case("4-refused", "false, refused, when n is not -1 .. 100", PromiseBoundaryTest::powerRefused),
            new Case("4-off", "When it is OFF nothing is written, and this says when it fails",
                    PromiseBoundaryTest::powerWhenOff),
            new Case("4-undone", "(but restart undoes it)", PromiseBoundaryTest::powerUndone),
            new Case("5-on", "Restarts the system, also when the power is on", PromiseBoundaryTest::restartWhenOn),
            new Case("5-count", "answers how many records were done", PromiseBoundaryTest::restartCount),
            new Case("6-on", "Whether the power is on.", PromiseBoundaryTest::isOn),
            new Case("7-none", "Word a of the disk; 0 when there is none.", PromiseBoundaryTest::wordNone),
            new Case("8-power", "(no power is needed, and none used)", PromiseBoundaryTest::spoilPower),
            new Case("8-refused", "false, refused, when there is none.", PromiseBoundaryTest::spoilRefused),
            new Case("9-refused", "The rating of item i by user u; OFF; BAD.", PromiseBoundaryTest::ratingRefused),
            new Case("10-refused", "The weight of items i and j; OFF; BAD.", PromiseBoundaryTest::weightRefused),
            new Case("11-from-0", "Entry p (from 0) of the list of item j", PromiseBoundaryTest::neighbourFrom0),
            new Case("11-bad", "OFF; BAD when there is no such item", PromiseBoundaryTest::neighbourBad),
            new Case("11-none", "NONE when the list has no entry p", PromiseBoundaryTest::neighbourNone),
            new Case("12-refused", "The score of item i for user u; OFF; BAD.", PromiseBoundaryTest::scoreRefused),
            new Case("13-from-0", "The item that is number p (from 0) of the best ones for user u",
                    PromiseBoundaryTest::bestFrom0),
            new Case("13-bad", "OFF; BAD when there is no such user; NONE", PromiseBoundaryTest::bestBad),
            new Case("13-none", "NONE when there is no number p", PromiseBoundaryTest::bestNone),
            new Case("14-user", "OFF; BAD when there is no such user, or", PromiseBoundaryTest::readsUser),
            new Case("14-k", "or k is not 1 .. 16", PromiseBoundaryTest::readsK),
            new Case("15-refused", "w(i, j) * r(u, j); OFF; BAD.", PromiseBoundaryTest::shareRefused),
            new Case("16-count", "2: how many ratings there are that are not 0", PromiseBoundaryTest::numberCount),
            new Case("16-others", "OFF; BAD for others", PromiseBoundaryTest::numberOthers));

    public static void main(String[] keys) {
        run(CASES, keys);
        end();
    }

    private static void newObject() {
        NeighbourScores x = new NeighbourScores();
        for (int u = 0; u < 12; u++) {
            for (int i = 0; i < 16; i++) {
                due("rating(" + u + ", " + i + ")", x.rating(u, i), 0);
            }
        }
        for (int a = 0; a < DISK_WORDS; a++) {
            due("word(" + a + ")", x.word(a), a == 25 ? -1307569109 : 0);
        }
        due("isOn", x.isOn(), true);
        numbers(x, 0, 0, 0);
        NeighbourScores other = new NeighbourScores();
        other.rate(0, 0, 5);
        other.spoil(171, 5);
        off(other);
        due("another object's rating", x.rating(0, 0), 0);
        due("another object's words", x.word(55) + x.word(171), 0);
        due("another object's power", x.isOn(), true);
    }

    private static void rateRecord() {
        NeighbourScores x = rated(0, 0, 0, 0, 0, 5, 11, 15, 5);
        due("rating to 0", x.rate(11, 15, 0), 5);
        record(x, 1, 0);
        record(x, 2, 5);
        record(x, 3, 11155);
        record(x, 4, 11150);
        due("nothing behind them", x.word(52 + 3 * 5), 0);
        due("nothing before them", x.word(52), 0);
        due("the same once more", x.rate(11, 15, 0), 0);
        record(x, 5, 11150);
        numbers(x, 5, 0, 1);
    }

    private static void rateAll() {
        for (int n = 0; n <= 4; n++) {
            NeighbourScores x = rated(2, 3, 1);
            x.power(n);
            due("rate with " + n + " words left", x.rate(2, 3, 5), n < 3 ? OFF : 1);
            due("is on", x.isOn(), n >= 3);
            due("restart", x.restart(), n < 3 ? 1 : 2);
            due("rating", x.rating(2, 3), n < 3 ? 1 : 5);
            numbers(x, n < 3 ? 1 : 2, 0, 1);
        }
        NeighbourScores x = rated(2, 3, 1);
        x.power(3);
        due("rate", x.rate(2, 3, 5), 1);
        due("set without a restart", x.rating(2, 3), 5);
        numbers(x, 2, 0, 1);
    }

    private static void rateBefore() {
        NeighbourScores x = new NeighbourScores();
        for (int r = 0; r <= 5; r++) {
            due("rate behind " + r, x.rate(0, 15, r), Math.max(0, r - 1));
            due("another user's", x.rate(11, 15, r), Math.max(0, r - 1));
        }
        due("from 5 to 0", x.rate(0, 15, 0), 5);
        due("from 0 to 0", x.rate(0, 15, 0), 0);
        due("from 0 to 5", x.rate(0, 15, 5), 0);
        due("from 5 to 5", x.rate(0, 15, 5), 5);
        due("restart", x.restart(), 16);
        due("behind a restart", x.rate(0, 15, 1), 5);
        due("the other user's behind a restart", x.rate(11, 15, 1), 5);
    }

    private static void rateOffBad() {
        NeighbourScores x = rated(11, 15, 5);
        for (int e : EDGES) {
            due("user " + e, x.rate(e, 0, 1), BAD);
            due("item " + e, x.rate(0, e, 1), BAD);
            due("rating " + e, x.rate(0, 0, e), BAD);
        }
        due("user 12", x.rate(12, 0, 1), BAD);
        due("rating 6", x.rate(0, 0, 6), BAD);
        due("nothing written", x.word(58), 0);
        numbers(x, 1, 0, 1);
        off(x);
        due("off", x.rate(11, 15, 5), OFF);
        due("off before bad", x.rate(12, 15, 5), OFF);
    }

    private static void rateFull() {
        NeighbourScores x = filled(39);
        due("39 more", x.number(0) - x.number(1), 39);
        due("the last that fits", x.rate(0, 0, 5), 0);
        due("40 more", x.number(0) - x.number(1), 40);
        due("full", x.rate(0, 0, 4), FULL);
        due("rating stays", x.rating(0, 0), 5);
        due("record 1 stays", x.word(55), 1);
        due("restart", x.restart(), 40);
        due("full", x.rate(0, 0, 4), FULL);
        due("snapshot", x.snapshot(), 26);
        for (int n = 41; n <= 80; n++) {
            due("rate " + n, x.rate(0, 0, 5), 5);
        }
        due("full over a base of 40", x.rate(0, 0, 4), FULL);
        x.power(25);
        due("a snapshot that fails", x.snapshot(), OFF);
        due("restart", x.restart(), 40);
        due("is full still", x.rate(0, 0, 4), FULL);
        due("snapshot", x.snapshot(), 26);
        due("not full", x.rate(0, 0, 4), 5);
        // Without the newer snapshot the base is 40 again, and record 41 has gone.
        x.spoil(x.word(0) == 80 ? 25 : 51, 0);
        due("restart", x.restart(), 0);
        numbers(x, 40, 40, 40);
        due("not full over a base of 40", x.rate(0, 0, 3), 5);
    }

    private static void rateGoesOff() {
        for (int n = 0; n < 3; n++) {
            NeighbourScores x = rated(0, 0, 3, 0, 1, 3);
            x.power(n);
            due("rate", x.rate(0, 0, 5), OFF);
            due("off", x.isOn(), false);
            due("while off", x.rating(0, 0), OFF);
            due("restart", x.restart(), 2);
            due("not set", x.rating(0, 0), 3);
            due("not set", x.weight(0, 1), 1048576);
            numbers(x, 2, 0, 2);
            due("the same number again", x.rate(0, 0, 4), 3);
            record(x, 3, 4);
        }
    }

    private static void snapshotNotGood() {
        due("the second not good", placeOf(7, true, 6, false), 1);
        due("the second not good, though greater", placeOf(6, true, 7, false), 1);
        due("the first not good", placeOf(6, false, 7, true), 0);
        due("the first not good, though greater", placeOf(7, false, 6, true), 0);
        due("the first's number too great", placeOf(1000000001, true, 5, true), 0);
        due("the second's number too great", placeOf(5, true, 1000000001, true), 1);
        due("the first's number too small", placeOf(-1, true, 0, true), 0);
        due("the second's number too small", placeOf(0, true, -1, true), 1);
    }

    private static void snapshotLesser() {
        due("the second less", placeOf(7, true, 6, true), 1);
        due("the first less", placeOf(6, true, 7, true), 0);
        due("the second 0", placeOf(1, true, 0, true), 1);
        due("the first 0", placeOf(0, true, 1, true), 0);
        due("the first the greatest", placeOf(1000000000, true, 999999999, true), 1);
        due("the second the greatest", placeOf(999999999, true, 1000000000, true), 0);
        // One after the other in turn: the second, the first, the second.
        NeighbourScores x = new NeighbourScores();
        for (int n = 1; n <= 5; n++) {
            x.rate(0, 0, 1);
            due("snapshot " + n, x.snapshot(), 26);
            due("its place", x.word(n % 2 == 1 ? 26 : 0), n);
            due("the other's", x.word(n % 2 == 1 ? 0 : 26), n - 1);
        }
    }

    private static void snapshotNow() {
        // The system's own last snapshot, the second, was spoiled since: over it, not over the first.
        NeighbourScores x = filled(3);
        x.snapshot();
        x.spoil(40, 77);
        due("snapshot", x.snapshot(), 26);
        due("the first stays", x.word(0), 0);
        due("the second is whole", x.word(40), 0);
        // One that failed in the middle is not good.
        NeighbourScores y = filled(3);
        y.snapshot();
        y.rate(0, 0, 1);
        y.power(10);
        due("snapshot", y.snapshot(), OFF);
        due("restart", y.restart(), 1);
        due("base", y.number(1), 3);
        due("snapshot", y.snapshot(), 26);
        due("over the one that failed", y.word(0), 4);
        due("the other stays", y.word(26), 3);
        // One that was laid since has a number of its own.
        NeighbourScores z = filled(3);
        laySnapshot(z, 1, 900, new int[24], true);
        due("snapshot", z.snapshot(), 26);
        due("over the lesser", z.word(0), 3);
        due("the greater stays", z.word(26), 900);
        numbers(z, 3, 3, 3);
        due("and is taken", z.restart(), 0);
        numbers(z, 900, 900, 0);
    }

    private static void snapshotEqual() {
        due("7 and 7", placeOf(7, true, 7, true), 1);
        due("0 and 0", placeOf(0, true, 0, true), 1);
        due("1000000000 and 1000000000", placeOf(1000000000, true, 1000000000, true), 1);
    }

    private static void snapshotNoneGood() {
        due("no right check, the first greater", placeOf(7, false, 6, false), 1);
        due("no right check, the second greater", placeOf(6, false, 7, false), 1);
        due("no number that is good", placeOf(-1, true, 1000000001, true), 1);
        due("no number that is good", placeOf(1000000001, true, -1, true), 1);
    }

    /** Answers in place of which snapshot a new one is written. */
    private static int placeOf(int first, boolean firstRight, int second, boolean secondRight) {
        NeighbourScores x = filled(3);
        laySnapshot(x, 0, first, new int[24], firstRight);
        laySnapshot(x, 1, second, new int[24], secondRight);
        due("snapshot", x.snapshot(), 26);
        boolean isFirst = x.word(0) == 3;
        boolean isSecond = x.word(26) == 3;
        due("the other's number stays", x.word(isFirst ? 26 : 0), isFirst ? second : first);
        return isFirst && isSecond ? 2 : isFirst ? 0 : isSecond ? 1 : NONE;
    }

    private static void snapshotBase() {
        for (int n = 24; n <= 27; n++) {
            NeighbourScores x = filled(3);
            x.power(n);
            due("snapshot with " + n + " words left", x.snapshot(), n < 26 ? OFF : 26);
            due("restart", x.restart(), n < 26 ? 3 : 0);
            due("base", x.number(1), n < 26 ? 0 : 3);
        }
        NeighbourScores x = filled(40);
        due("base before", x.number(1), 0);
        due("snapshot", x.snapshot(), 26);
        due("base behind", x.number(1), 40);
        due("snapshot with nothing new", x.snapshot(), 26);
        numbers(x, 40, 40, 40);
    }

    private static void snapshotCount() {
        NeighbourScores x = new NeighbourScores();
        due("with no ratings", x.snapshot(), 26);
        due("with no ratings, once more", x.snapshot(), 26);
        NeighbourScores full = allRatedFive();
        full.power(52);
        due("with all ratings", full.snapshot(), 26);
        due("with all ratings, once more", full.snapshot(), 26);
        due("52 words in all", full.rate(0, 0, 1), OFF);
    }

    private static void snapshotOff() {
        for (int n = 0; n < 26; n++) {
            NeighbourScores x = filled(3);
            x.power(n);
            due("after " + n, x.snapshot(), OFF);
            due("off", x.isOn(), false);
            due("when it is off", x.snapshot(), OFF);
            due("restart", x.restart(), 3);
            numbers(x, 3, 0, 3);
        }
    }

    /** The note on stage 1: a number above 1000000000 is written and is the base, and is not good. */
    private static void snapshotAbove() {
        NeighbourScores x = new NeighbourScores();
        laySnapshot(x, 1, 1000000000, new int[24], true);
        due("restart", x.restart(), 0);
        due("rate", x.rate(0, 1, 4), 0);
        numbers(x, 1000000001, 1000000000, 1);
        due("snapshot", x.snapshot(), 26);
        due("its number", x.word(0), 1000000001);
        due("its check", x.word(25), checkOf(1, numberAndRatings(1000000001, 0x40)));
        numbers(x, 1000000001, 1000000001, 1);
        due("rate", x.rate(0, 2, 5), 0);
        due("restart, from the other and its records", x.restart(), 2);
        numbers(x, 1000000002, 1000000000, 2);
        due("snapshot", x.snapshot(), 26);
        due("over the one that is not good", x.word(0), 1000000002);
        due("the other stays", x.word(26), 1000000000);
        numbers(x, 1000000002, 1000000002, 2);
    }

    private static int[] numberAndRatings(int number, int firstRatings) {
        int[] words = new int[25];
        words[0] = number;
        words[1] = firstRatings;
        return words;
    }

    private static void powerFromNowOn() {
        NeighbourScores x = new NeighbourScores();
        x.power(4);
        due("three words", x.rate(0, 0, 1), 0);
        due("power(3)", x.power(3), true);
        due("three more", x.rate(0, 0, 2), 1);
        due("and none", x.rate(0, 0, 3), OFF);
        due("nothing written", x.word(52 + 3 * 3), 0);
        x.restart();
        x.power(3);
        due("power(0)", x.power(0), true);
        due("no word", x.rate(0, 0, 3), OFF);
        x.restart();
        due("power(100)", x.power(100), true);
        for (int n = 1; n <= 33; n++) {
            due("rate " + n, x.rate(0, 0, 2), 2);
        }
        due("word 101", x.rate(0, 0, 3), OFF);
        due("word 100", x.word(52 + 3 * 36), 36);
        due("no word 101", x.word(53 + 3 * 36), 0);
    }

    private static void powerMinus1() {
        NeighbourScores x = new NeighbourScores();
        x.power(0);
        due("power(-1)", x.power(-1), true);
        for (int n = 1; n <= 40; n++) {
            due("rate " + n, x.rate(0, 0, 2), n == 1 ? 0 : 2);
        }
        due("snapshot", x.snapshot(), 26);
        due("on", x.isOn(), true);
    }

    private static void powerRefused() {
        NeighbourScores x = new NeighbourScores();
        for (int n = -1; n <= 100; n++) {
            due("power(" + n + ")", x.power(n), true);
        }
        x.power(1);
        for (int n : new int[] {-2, -3, 101, 102, Integer.MIN_VALUE, Integer.MAX_VALUE}) {
            due("power(" + n + ")", x.power(n), false);
            due("on", x.isOn(), true);
        }
        due("fails after 1 still", x.rate(0, 0, 1), OFF);
        due("the first word", x.word(55), 1);
        due("not the second", x.word(56), 0);
        due("when it is off", x.power(-2), false);
        due("when it is off", x.power(101), false);
        due("when it is off", x.power(-1), true);
        due("when it is off", x.power(100), true);
    }

    private static void powerWhenOff() {
        for (int n : new int[] {-1, 0, 1, 100}) {
            NeighbourScores x = new NeighbourScores();
            off(x);
            due("power(" + n + ")", x.power(n), true);
            due("off still", x.isOn(), false);
            due("rate", x.rate(0, 0, 1), OFF);
            due("snapshot", x.snapshot(), OFF);
            due("nothing written", x.word(55), 0);
            due("nothing written", x.word(51), 0);
            due("off still", x.isOn(), false);
        }
    }

    private static void powerUndone() {
        for (int n : new int[] {0, 1, 5}) {
            NeighbourScores x = new NeighbourScores();
            off(x);
            x.power(n);
            due("restart", x.restart(), 0);
            due("rate", x.rate(0, 0, 1), 0);
            due("rate", x.rate(0, 0, 2), 1);
            due("snapshot", x.snapshot(), 26);
            due("on", x.isOn(), true);
        }
    }

    private static void restartWhenOn() {
        NeighbourScores x = rated(0, 0, 3, 0, 1, 4);
        x.spoil(58, 77);
        due("rating before", x.rating(0, 1), 4);
        due("restart", x.restart(), 1);
        due("rating behind", x.rating(0, 1), 0);
        numbers(x, 1, 0, 1);
        due("on", x.isOn(), true);
        x.power(2);
        due("restart", x.restart(), 1);
        due("does not fail", x.rate(0, 1, 2), 0);
        off(x);
        due("when it is off", x.restart(), 2);
        due("on", x.isOn(), true);
        due("once more", x.restart(), 2);
    }

    private static void restartCount() {
        for (int n : new int[] {0, 1, 39, 40}) {
            NeighbourScores x = filled(n);
            due("restart behind " + n, x.restart(), n);
            due("and once more", x.restart(), n);
            numbers(x, n, 0, n);
            x.snapshot();
            due("behind a snapshot", x.restart(), 0);
            numbers(x, n, n, n);
        }
        NeighbourScores x = filled(12);
        x.snapshot();
        x.rate(0, 0, 1);
        due("those behind the snapshot", x.restart(), 1);
    }

    private static void isOn() {
        NeighbourScores x = new NeighbourScores();
        due("new", x.isOn(), true);
        x.power(0);
        due("to fail at the next word", x.isOn(), true);
        x.rate(0, 0, 1);
        due("failed", x.isOn(), false);
        x.power(-1);
        due("off still", x.isOn(), false);
        x.restart();
        due("on again", x.isOn(), true);
    }

    private static void wordNone() {
        NeighbourScores x = new NeighbourScores();
        for (int a = 0; a < DISK_WORDS; a++) {
            x.spoil(a, 1000 + a);
        }
        due("first", x.word(0), 1000);
        due("last", x.word(171), 1171);
        for (int a : new int[] {-1, -2, -172, 172, 173, 344, Integer.MIN_VALUE, Integer.MAX_VALUE}) {
            due("word(" + a + ")", x.word(a), 0);
        }
        off(x);
        due("first, off", x.word(0), 1000);
        due("last, off", x.word(171), 1171);
        due("none, off", x.word(172), 0);
    }

    private static void spoilPower() {
        NeighbourScores x = filled(2);
        x.power(3);
        for (int a = 60; a < 80; a++) {
            due("spoil(" + a + ")", x.spoil(a, 0), true);
        }
        due("three words still", x.rate(0, 0, 1), 0);
        due("and none", x.rate(0, 0, 2), OFF);
        due("off", x.spoil(171, -9), true);
        due("word(171)", x.word(171), -9);
        due("off still", x.isOn(), false);
        NeighbourScores y = rated(0, 0, 3);
        y.power(0);
        due("with no word left", y.spoil(56, 5), true);
        due("on", y.isOn(), true);
        due("the rating stays until a restart", y.rating(0, 0), 3);
    }

    private static void spoilRefused() {
        NeighbourScores x = new NeighbourScores();
        due("spoil(0)", x.spoil(0, 5), true);
        due("spoil(171)", x.spoil(171, 6), true);
        for (int a : new int[] {-1, -2, -172, 172, 173, 344, Integer.MIN_VALUE, Integer.MAX_VALUE}) {
            due("spoil(" + a + ")", x.spoil(a, 7), false);
        }
        for (int a = 0; a < DISK_WORDS; a++) {
            due("word(" + a + ")", x.word(a), a == 0 ? 5 : a == 25 ? -1307569109 : a == 171 ? 6 : 0);
        }
        off(x);
        due("off", x.spoil(-1, 7), false);
        due("off", x.spoil(172, 7), false);
    }

    private static void ratingRefused() {
        NeighbourScores x = rated(0, 0, 1, 11, 15, 5);
        due("first", x.rating(0, 0), 1);
        due("last", x.rating(11, 15), 5);
        due("user 12", x.rating(12, 15), BAD);
        for (int e : EDGES) {
            due("user " + e, x.rating(e, 15), BAD);
            due("item " + e, x.rating(11, e), BAD);
        }
        off(x);
        due("off", x.rating(11, 15), OFF);
        due("off before bad", x.rating(12, 16), OFF);
    }

    private static void weightRefused() {
        NeighbourScores x = rated(0, 0, 1, 0, 15, 5);
        due("first and last", x.weight(0, 15), 1048576);
        due("last and first", x.weight(15, 0), 1048576);
        for (int e : EDGES) {
            due("first " + e, x.weight(e, 15), BAD);
            due("second " + e, x.weight(0, e), BAD);
            due("both " + e, x.weight(e, e), BAD);
        }
        off(x);
        due("off", x.weight(0, 15), OFF);
        due("off before bad", x.weight(16, 16), OFF);
    }

    private static void neighbourFrom0() {
        NeighbourScores x = rated(0, 0, 1, 0, 1, 1, 0, 2, 1, 1, 1, 2, 1, 2, 1);
        // The weights of 0: 1/5 with 1, and 1/2 with 2.
        due("entry 0", x.neighbour(0, 0), 2);
        due("entry 1", x.neighbour(0, 1), 1);
        NeighbourScores full = allRatedFive();
        due("entry 0 of 15", full.neighbour(15, 0), 0);
        due("entry 14 of 15", full.neighbour(15, 14), 14);
        due("entry 14 of 15, of item 0", full.neighbour(0, 14), 15);
    }

    private static void neighbourBad() {
        NeighbourScores x = allRatedFive();
        for (int e : EDGES) {
            due("item " + e, x.neighbour(e, 0), BAD);
            due("item " + e + ", entry too", x.neighbour(e, e), BAD);
        }
        off(x);
        due("off", x.neighbour(0, 0), OFF);
        due("off before bad", x.neighbour(16, 0), OFF);
    }

    private static void neighbourNone() {
        NeighbourScores x = rated(0, 0, 1, 0, 1, 1);
        due("behind the last", x.neighbour(0, 1), NONE);
        due("of an empty list", x.neighbour(2, 0), NONE);
        NeighbourScores full = allRatedFive();
        due("behind 15 entries", full.neighbour(15, 15), NONE);
        for (int e : EDGES) {
            due("entry " + e, full.neighbour(0, e), NONE);
        }
    }

    private static void scoreRefused() {
        NeighbourScores x = rated(0, 0, 1, 0, 15, 5, 11, 0, 1);
        // dot 5, squares 2 and 25
        due("first", x.score(0, 0), 5 * 524288);
        due("last", x.score(11, 15), 524288);
        due("user 12", x.score(12, 15), BAD);
        for (int e : EDGES) {
            due("user " + e, x.score(e, 15), BAD);
            due("item " + e, x.score(11, e), BAD);
        }
        off(x);
        due("off", x.score(11, 15), OFF);
        due("off before bad", x.score(12, 16), OFF);
    }

    private static void bestFrom0() {
        NeighbourScores x = rated(0, 0, 1, 0, 1, 1, 0, 2, 1, 1, 1, 2, 1, 2, 1, 11, 0, 1);
        // The square of 0 is 2, and its weights 1/10 with 1, and 1/4 with 2.
        due("number 0", x.best(11, 0), 2);
        due("number 1", x.best(11, 1), 1);
        NeighbourScores y = new NeighbourScores();
        for (int i = 0; i < 16; i++) {
            y.rate(0, i, 1);
        }
        y.rate(1, 0, 1);
        due("number 0 of 15", y.best(1, 0), 1);
        due("number 14 of 15", y.best(1, 14), 15);
        due("none behind", y.best(1, 15), NONE);
    }

    private static void bestBad() {
        NeighbourScores x = rated(0, 0, 1, 0, 1, 1, 11, 0, 1);
        due("user 11", x.best(11, 0), 1);
        due("user 12", x.best(12, 0), BAD);
        for (int e : EDGES) {
            due("user " + e, x.best(e, 0), BAD);
            due("user " + e + ", number too", x.best(e, e), BAD);
        }
        off(x);
        due("off", x.best(11, 0), OFF);
        due("off before bad", x.best(12, 0), OFF);
    }

    private static void bestNone() {
        NeighbourScores x = rated(0, 0, 1, 0, 1, 1, 11, 0, 1);
        due("number 0", x.best(11, 0), 1);
        due("behind the last", x.best(11, 1), NONE);
        for (int e : EDGES) {
            due("number " + e, x.best(11, e), NONE);
        }
        due("of a user with all items that score", x.best(0, 0), NONE);
        due("of a user without ratings", x.best(5, 0), NONE);
        due("of a user with all items", allRatedFive().best(0, 0), NONE);
    }

    private static void readsUser() {
        NeighbourScores x = rated(0, 0, 1, 0, 1, 1, 11, 0, 1);
        due("user 0", x.reads(0, 1), 2);
        due("user 11", x.reads(11, 1), 1);
        due("user 12", x.reads(12, 1), BAD);
        for (int e : EDGES) {
            due("user " + e, x.reads(e, 1), BAD);
            due("user " + e + ", k too", x.reads(e, 0), BAD);
        }
        off(x);
        due("off", x.reads(11, 1), OFF);
        due("off before bad", x.reads(12, 17), OFF);
    }

    private static void readsK() {
        NeighbourScores x = rated(0, 0, 1, 0, 1, 1, 11, 0, 1);
        for (int k = 1; k <= 16; k++) {
            due("k " + k, x.reads(0, k), 2);
        }
        for (int k : new int[] {0, -1, 17, 18, Integer.MIN_VALUE, Integer.MAX_VALUE}) {
            due("k " + k, x.reads(0, k), BAD);
            due("k " + k + " for a user without ratings", x.reads(5, k), BAD);
        }
    }

    private static void shareRefused() {
        NeighbourScores x = rated(0, 0, 1, 0, 15, 5, 11, 0, 3, 11, 15, 5);
        // Dot 20, squares 10 and 50: 4/5 of the whole.
        due("first", x.share(0, 15, 0), 838860);
        due("last", x.share(11, 0, 15), 5 * 838860);
        due("of a rating of 0", x.share(5, 0, 15), 0);
        due("of a weight of 0", x.share(11, 7, 15), 0);
        due("of an item in itself", x.share(11, 15, 15), 0);
        due("the greatest", allRatedFive().share(11, 15, 0), 5242880);
        due("user 12", x.share(12, 0, 15), BAD);
        for (int e : EDGES) {
            due("user " + e, x.share(e, 0, 15), BAD);
            due("first item " + e, x.share(11, e, 15), BAD);
            due("second item " + e, x.share(11, 0, e), BAD);
            due("both items " + e, x.share(11, e, e), BAD);
        }
        off(x);
        due("off", x.share(11, 0, 15), OFF);
        due("off before bad", x.share(12, 16, 16), OFF);
    }

    private static void numberCount() {
        NeighbourScores x = new NeighbourScores();
        due("none", x.number(2), 0);
        x.rate(0, 0, 0);
        due("one of 0", x.number(2), 0);
        x.rate(0, 0, 1);
        x.rate(11, 15, 5);
        due("first and last", x.number(2), 2);
        x.rate(0, 0, 5);
        due("one changed", x.number(2), 2);
        x.rate(0, 0, 0);
        due("one to 0", x.number(2), 1);
        x.rate(11, 15, 0);
        due("both to 0", x.number(2), 0);
        due("all", allRatedFive().number(2), 192);
    }

    private static void numberOthers() {
        NeighbourScores x = filled(5);
        x.snapshot();
        x.rate(11, 15, 1);
        numbers(x, 6, 5, 6);
        for (int how : new int[] {-1, -2, 3, 4, 100, Integer.MIN_VALUE, Integer.MAX_VALUE}) {
            due("number(" + how + ")", x.number(how), BAD);
        }
        off(x);
        for (int how = -1; how <= 3; how++) {
            due("number(" + how + ") when it is off", x.number(how), OFF);
        }
    }
}
