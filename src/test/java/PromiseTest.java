/** Holds each promise of the document against answers worked out by hand: one method a promise. */
public final class PromiseTest extends TestBench {

    public static void main(String[] args) {
        constants();
        newObject();
        rate();
        rateWithoutPower();
        snapshot();
        snapshotPlace();
        snapshotWithoutPower();
        power();
        powerWhenOff();
        restartFromSnapshots();
        restartFromRecords();
        isOn();
        word();
        spoil();
        rating();
        weight();
        neighbour();
        score();
        best();
        reads();
        share();
        number();
        allOff();
        end();
    }

    private static void constants() {
        topic("constants");
        due("NONE", NeighbourScores.NONE, -1);
        due("BAD", NeighbourScores.BAD, -2);
        due("OFF", NeighbourScores.OFF, -3);
        due("FULL", NeighbourScores.FULL, -4);
    }

    private static void newObject() {
        topic("promise 1 a new object");
        NeighbourScores x = new NeighbourScores();
        for (int a = 0; a < 172; a++) {
            due("word(" + a + ")", x.word(a), a == 25 ? checkOf(1, new int[25]) : 0);
        }
        for (int u = 0; u < 12; u++) {
            for (int i = 0; i < 16; i++) {
                due("rating(" + u + ", " + i + ")", x.rating(u, i), 0);
            }
        }
        due("isOn", x.isOn(), true);
        numbers(x, 0, 0, 0);
        due("restart", x.restart(), 0);
        NeighbourScores y = new NeighbourScores();
        y.rate(0, 0, 5);
        due("another object's rating", x.rating(0, 0), 0);
        due("another object's word", x.word(55), 0);
    }

    private static void rate() {
        topic("promise 2 rate");
        NeighbourScores x = new NeighbourScores();
        due("first", x.rate(11, 15, 5), 0);
        due("again", x.rate(11, 15, 2), 5);
        due("to 0", x.rate(11, 15, 0), 2);
        due("from 0", x.rate(11, 15, 0), 0);
        due("another", x.rate(0, 0, 1), 0);
        due("rating", x.rating(0, 0), 1);
        due("rating", x.rating(11, 15), 0);
        numbers(x, 5, 0, 1);
        record(x, 1, 11155);
        record(x, 2, 11152);
        record(x, 3, 11150);
        record(x, 4, 11150);
        record(x, 5, 1);
        due("behind the last", x.word(70), 0);
        due("before the first", x.word(52), 0);
        for (int e : EDGES) {
            due("no user " + e, x.rate(e, 0, 1), BAD);
            due("no item " + e, x.rate(0, e, 1), BAD);
            due("no rating " + e, x.rate(0, 0, e), BAD);
        }
        due("no user 12", x.rate(12, 0, 1), BAD);
        due("no rating 6", x.rate(0, 0, 6), BAD);
        due("behind the refused", x.word(70), 0);
        due("rating", x.rating(0, 0), 1);
        numbers(x, 5, 0, 1);
        for (int n = 6; n <= 40; n++) {
            due("record " + n, x.rate(n % 12, n % 16, n % 5 + 1), 0);
        }
        record(x, 39, 3075);
        due("record 40 stands first", x.word(52), 40);
        due("bad before full", x.rate(12, 0, 1), BAD);
        due("full", x.rate(1, 1, 1), FULL);
        due("full again", x.rate(1, 1, 1), FULL);
        due("record 1 still stands", x.word(55), 1);
        numbers(x, 40, 0, 36);
        due("all repeated", x.restart(), 40);
        due("full behind a restart", x.rate(1, 1, 1), FULL);
        due("snapshot", x.snapshot(), 26);
        due("not full", x.rate(1, 1, 1), 0);
        record(x, 41, 1011);
        due("record 41 stands where 1 stood", x.word(55), 41);
    }

    private static void rateWithoutPower() {
        topic("promise 2 rate, the power fails");
        for (int n = 0; n < 3; n++) {
            NeighbourScores x = new NeighbourScores();
            x.rate(5, 6, 3);
            x.power(n);
            due("after " + n, x.rate(5, 6, 4), OFF);
            due("is on", x.isOn(), false);
            int[] whole = {2, 5064, checkOf(2, 2, 5064)};
            for (int k = 0; k < 3; k++) {
                due("word " + k + " after " + n, x.word(58 + k), k < n ? whole[k] : 0);
            }
            due("off before bad", x.rate(12, 0, 0), OFF);
            due("restart", x.restart(), 1);
            due("not set", x.rating(5, 6), 3);
            numbers(x, 1, 0, 1);
        }
        NeighbourScores x = new NeighbourScores();
        x.power(3);
        due("just enough", x.rate(0, 1, 4), 0);
        due("is on", x.isOn(), true);
        due("none left", x.rate(0, 2, 4), OFF);
        due("restart", x.restart(), 1);
        due("no failure behind a restart", x.rate(0, 2, 4), 0);
        NeighbourScores y = filled(40);
        y.power(0);
        due("full needs no power", y.rate(0, 0, 1), FULL);
        due("bad needs no power", y.rate(0, 0, 6), BAD);
        due("is on", y.isOn(), true);
    }

    private static void snapshot() {
        topic("promise 3 snapshot");
        NeighbourScores x = new NeighbourScores();
        x.rate(0, 0, 1);
        x.rate(0, 7, 5);
        x.rate(0, 8, 2);
        x.rate(11, 15, 4);
        x.rate(3, 2, 3);
        due("words written", x.snapshot(), 26);
        numbers(x, 5, 5, 5);
        int[] words = new int[25];
        words[0] = 5;
        words[1] = 0x50000001;
        words[2] = 2;
        words[7] = 0x300;
        words[24] = 0x40000000;
        for (int k = 0; k < 25; k++) {
            due("word " + k, x.word(26 + k), words[k]);
        }
        due("check", x.word(51), checkOf(1, words));
        due("the first one's number stays", x.word(0), 0);
        due("the records stay", x.word(55), 1);
        due("from the snapshot alone", x.restart(), 0);
        due("rating", x.rating(0, 7), 5);
        due("rating", x.rating(11, 15), 4);
        numbers(x, 5, 5, 5);
        due("rate", x.rate(0, 0, 2), 1);
        due("next one", x.snapshot(), 26);
        due("stands first", x.word(0), 6);
        due("the other stays", x.word(26), 5);
        due("word", x.word(1), 0x50000002);
        due("of the same number", x.snapshot(), 26);
        due("over the lesser", x.word(26), 6);
    }

    private static void snapshotPlace() {
        topic("promise 3 snapshot, its place");
        due("both good, the first greater", placeWritten(7, true, 6, true), 1);
        due("both good, the second greater", placeWritten(6, true, 7, true), 0);
        due("both good and equal", placeWritten(7, true, 7, true), 1);
        due("the first alone good", placeWritten(6, true, 7, false), 1);
        due("the second alone good", placeWritten(7, false, 6, true), 0);
        due("none good", placeWritten(7, false, 6, false), 1);
        due("the greatest number first", placeWritten(1000000000, true, 5, true), 1);
        due("the greatest number second", placeWritten(5, true, 1000000000, true), 0);
        due("the first number too great", placeWritten(1000000001, true, 5, true), 0);
        due("the second number too great", placeWritten(5, true, 1000000001, true), 1);
        due("the first number too little", placeWritten(-1, true, 0, true), 0);
        due("the second number too little", placeWritten(0, true, -1, true), 1);
        due("no number good", placeWritten(-1, true, 1000000001, true), 1);
    }

    /** Answers in place of which snapshot a new one is written. */
    private static int placeWritten(int first, boolean firstRight, int second, boolean secondRight) {
        NeighbourScores x = filled(3);
        laySnapshot(x, 0, first, new int[24], firstRight);
        laySnapshot(x, 1, second, new int[24], secondRight);
        due("snapshot", x.snapshot(), 26);
        boolean isFirst = x.word(0) == 3;
        boolean isSecond = x.word(26) == 3;
        return isFirst && isSecond ? 2 : isFirst ? 0 : isSecond ? 1 : NONE;
    }

    private static void snapshotWithoutPower() {
        topic("promise 3 snapshot, the power fails");
        NeighbourScores whole = filled(3);
        whole.snapshot();
        for (int n = 0; n < 26; n++) {
            NeighbourScores x = filled(3);
            laySnapshot(x, 1, 77, new int[24], false);
            int check = x.word(51);
            x.power(n);
            due("after " + n, x.snapshot(), OFF);
            due("is on", x.isOn(), false);
            for (int k = 0; k < 26; k++) {
                int before = k == 0 ? 77 : k == 25 ? check : 0;
                due("word " + k + " after " + n, x.word(26 + k), k < n ? whole.word(26 + k) : before);
            }
            due("when it is off", x.snapshot(), OFF);
            due("restart", x.restart(), 3);
            numbers(x, 3, 0, 3);
        }
        NeighbourScores x = filled(3);
        x.power(26);
        due("just enough", x.snapshot(), 26);
        due("is on", x.isOn(), true);
        numbers(x, 3, 3, 3);
        due("none left", x.rate(0, 0, 1), OFF);
    }

    private static void power() {
        topic("promise 4 power");
        NeighbourScores x = new NeighbourScores();
        for (int n = -1; n <= 100; n++) {
            due("power(" + n + ")", x.power(n), true);
        }
        for (int n : new int[] {-2, 101, 102, Integer.MIN_VALUE, Integer.MAX_VALUE}) {
            due("power(" + n + ")", x.power(n), false);
        }
        due("still on", x.isOn(), true);
        x.power(1);
        x.power(-1);
        due("undone", x.rate(0, 0, 1), 0);
        x.power(2);
        due("refused", x.power(101), false);
        due("refused", x.power(-2), false);
        due("the refused ones changed nothing", x.rate(0, 0, 2), OFF);
        due("the second word was written", x.word(59), 2);
        due("restart", x.restart(), 1);
        x.power(2);
        x.power(3);
        due("the last one counts", x.rate(0, 0, 2), 1);
        due("the last one counts", x.rate(0, 0, 2), OFF);
        x.restart();
        x.power(100);
        for (int n = 0; n < 33; n++) {
            due("word " + 3 * n, x.rate(1, 1, 1), n == 0 ? 0 : 1);
        }
        due("word 100 is the last", x.rate(1, 1, 2), OFF);
        due("record 36's number was written", x.word(52 + 3 * 36), 36);
        due("its content was not", x.word(52 + 3 * 36 + 1), 0);
        due("restart", x.restart(), 35);
    }

    private static void powerWhenOff() {
        topic("promise 4 power, when it is off");
        NeighbourScores x = new NeighbourScores();
        x.power(0);
        due("off", x.rate(0, 0, 1), OFF);
        due("refused", x.power(101), false);
        due("taken", x.power(50), true);
        due("does not switch it on", x.isOn(), false);
        due("taken", x.power(-1), true);
        due("does not switch it on", x.isOn(), false);
        due("nothing is written", x.rate(0, 0, 1), OFF);
        due("nothing is written", x.word(55), 0);
        x.power(0);
        due("restart", x.restart(), 0);
        due("restart undoes it", x.rate(0, 0, 1), 0);
        due("snapshot", x.snapshot(), 26);
    }

    private static void restartFromSnapshots() {
        topic("promise 5 restart, the snapshots");
        int[] first = new int[24];
        int[] second = new int[24];
        first[0] = 1;
        second[0] = 2;
        due("the greater is first", taken(7, first, true, 6, second, true), 1007);
        due("the greater is second", taken(6, first, true, 7, second, true), 2007);
        due("of equal ones the first", taken(7, first, true, 7, second, true), 1007);
        due("the first alone good", taken(6, first, true, 7, second, false), 1006);
        due("the second alone good", taken(7, first, false, 6, second, true), 2006);
        due("none good", taken(7, first, false, 6, second, false), 0);
        due("0 is good", taken(0, first, true, -1, second, true), 1000);
        due("the greatest number", taken(1, first, true, 1000000000, second, true), 1000002000);
        due("too great a number", taken(1, first, true, 1000000001, second, true), 1001);
        due("too little a number", taken(-1, first, true, 0, second, true), 2000);
        NeighbourScores x = new NeighbourScores();
        int[] words = new int[24];
        words[0] = 0x12345678;
        words[1] = 0x9ABCDEF0;
        words[23] = 0xF5060504;
        laySnapshot(x, 1, 30, words, true);
        due("restart", x.restart(), 0);
        int[] rated = {0, 0, 0, 5, 4, 3, 2, 1, 0, 0, 0, 0, 0, 0, 0, 0};
        for (int i = 0; i < 16; i++) {
            due("rating(0, " + i + ")", x.rating(0, i), rated[i]);
            int last = i == 8 ? 4 : i == 10 || i == 14 ? 5 : 0;
            due("rating(11, " + i + ")", x.rating(11, i), last);
        }
        numbers(x, 30, 30, 8);
        NeighbourScores y = filled(12);
        y.rate(0, 0, 3);
        y.rate(0, 1, 3);
        y.rate(11, 15, 3);
        y.rate(11, 0, 3);
        y.snapshot();
        y.spoil(25, 0);
        y.spoil(51, 0);
        for (int a = 52; a < 172; a++) {
            y.spoil(a, 0);
        }
        due("with nothing left", y.restart(), 0);
        numbers(y, 0, 0, 0);
        for (int u = 0; u < 12; u++) {
            for (int i = 0; i < 16; i++) {
                due("rating(" + u + ", " + i + ") with nothing left", y.rating(u, i), 0);
            }
        }
        y.rate(5, 0, 1);
        y.rate(5, 1, 1);
        due("no dot left", y.weight(0, 1), 1048576);
        due("no dot left", y.weight(0, 15), 0);
        due("check without bit 0", checkMatters(1, -2), false);
        due("check with another bit", checkMatters(1, -3), false);
        due("check", checkMatters(1, -1), true);
    }

    /** Whether a snapshot whose check stands behind the mask is taken, or a record done. */
    private static boolean checkMatters(int number, int mask) {
        NeighbourScores x = new NeighbourScores();
        laySnapshot(x, 1, number, new int[24], true);
        int check = x.word(51);
        x.spoil(51, mask == -1 ? check : mask == -2 ? check & mask : check ^ 2);
        x.restart();
        return x.number(1) == number;
    }

    /** Answers the base behind a restart, and 1000 times the rating that tells which was taken. */
    private static int taken(int a, int[] first, boolean firstRight, int b, int[] second, boolean secondRight) {
        NeighbourScores x = filled(2);
        laySnapshot(x, 0, a, first, firstRight);
        laySnapshot(x, 1, b, second, secondRight);
        for (int k = 52; k < 172; k++) {
            x.spoil(k, 0);
        }
        due("no record", x.restart(), 0);
        due("number is base", x.number(0), x.number(1));
        return x.number(1) + 1000 * x.rating(0, 0);
    }

    private static void restartFromRecords() {
        topic("promise 5 restart, the records");
        NeighbourScores x = filled(40);
        int rated = x.number(2);
        due("all", x.restart(), 40);
        due("the same behind another", x.restart(), 40);
        numbers(x, 40, 0, rated);
        x.spoil(52 + 3 * 17, 57);
        due("another number", x.restart(), 16);
        numbers(x, 16, 0, x.number(2));
        layRecord(x, 17, 1000 * 11 + 10 * 15 + 5);
        due("mended", x.restart(), 40);
        due("its rating", x.rating(11, 15), 5);
        x.spoil(52 + 3 * 9 + 2, x.word(52 + 3 * 9 + 2) ^ 1);
        due("check without bit 0", x.restart(), 8);
        int[] wrongs = {-1, -1000, 6, 7, 9, 16, 160, 161, 999, 1006, 1160, 11156, 11160, 12000, 12001, 100000,
            Integer.MAX_VALUE, Integer.MIN_VALUE};
        for (int content : wrongs) {
            layRecord(x, 9, content);
            due("content " + content, x.restart(), 8);
        }
        int[] rights = {0, 5, 10, 15, 150, 155, 1000, 1155, 11000, 11155};
        for (int content : rights) {
            layRecord(x, 9, content);
            due("content " + content, x.restart(), 40);
        }
        NeighbourScores y = new NeighbourScores();
        laySnapshot(y, 1, 1000000000, new int[24], true);
        for (int n = 1; n <= 45; n++) {
            layRecord(y, 1000000000 + n, 1000 * (n % 12) + 10 * (n % 16) + 1);
        }
        due("a record that the ring has lost", y.restart(), 0);
        for (int n = 1; n <= 40; n++) {
            layRecord(y, 1000000000 + n, 1000 * (n % 12) + 10 * (n % 16) + 1);
        }
        due("at the greatest numbers", y.restart(), 40);
        numbers(y, 1000000040, 1000000000, 40);
        due("full", y.rate(0, 0, 1), FULL);
        due("snapshot", y.snapshot(), 26);
        numbers(y, 1000000040, 1000000040, 40);
        due("it stands first", y.word(0), 1000000040);
        due("its number is not good", y.restart(), 40);
        numbers(y, 1000000040, 1000000000, 40);
    }

    private static void isOn() {
        topic("promise 6 isOn");
        NeighbourScores x = new NeighbourScores();
        due("new", x.isOn(), true);
        x.power(0);
        due("not off before it writes", x.isOn(), true);
        due("reading needs no power", x.rating(0, 0), 0);
        due("still", x.isOn(), true);
        x.snapshot();
        due("off", x.isOn(), false);
        x.restart();
        due("on again", x.isOn(), true);
        x.restart();
        due("restart when it is on", x.isOn(), true);
    }

    private static void word() {
        topic("promise 7 word");
        NeighbourScores x = new NeighbourScores();
        x.spoil(0, 12);
        x.spoil(171, -7);
        due("first", x.word(0), 12);
        due("last", x.word(171), -7);
        for (int a : new int[] {-1, -172, 172, 173, Integer.MIN_VALUE, Integer.MAX_VALUE}) {
            due("word(" + a + ")", x.word(a), 0);
        }
        off(x);
        due("off", x.word(0), 12);
        due("off", x.word(171), -7);
        due("off", x.word(172), 0);
    }

    private static void spoil() {
        topic("promise 8 spoil");
        NeighbourScores x = new NeighbourScores();
        for (int a = 0; a < 172; a++) {
            due("spoil(" + a + ")", x.spoil(a, 3 * a - 100), true);
        }
        for (int a : new int[] {-1, -172, 172, 173, Integer.MIN_VALUE, Integer.MAX_VALUE}) {
            due("spoil(" + a + ")", x.spoil(a, 1), false);
        }
        for (int a = 0; a < 172; a++) {
            due("word(" + a + ")", x.word(a), 3 * a - 100);
        }
        numbers(x, 0, 0, 0);
        NeighbourScores y = filled(2);
        y.power(3);
        due("uses no power", y.spoil(26, 9), true);
        due("uses no power", y.spoil(26, 0), true);
        due("rate", y.rate(0, 0, 1), 0);
        due("rating stays", y.rating(0, 0), 1);
        due("snapshot", y.snapshot(), OFF);
        due("needs no power", y.spoil(30, 9), true);
        due("word", y.word(30), 9);
        due("no word", y.spoil(172, 9), false);
        due("does not switch it on", y.isOn(), false);
    }

    private static void rating() {
        topic("promise 9 rating");
        NeighbourScores x = new NeighbourScores();
        for (int r = 0; r <= 5; r++) {
            x.rate(r, r + 10, r);
            x.rate(11 - r, 15 - r, r);
        }
        for (int r = 0; r <= 5; r++) {
            due("rating", x.rating(r, r + 10), r);
            due("rating", x.rating(11 - r, 15 - r), r);
        }
        due("not rated", x.rating(0, 0), 0);
        due("no user 12", x.rating(12, 0), BAD);
        for (int e : EDGES) {
            due("no user", x.rating(e, 0), BAD);
            due("no item", x.rating(0, e), BAD);
        }
    }

    private static void weight() {
        topic("promise 10 weight");
        NeighbourScores x = new NeighbourScores();
        x.rate(0, 0, 3);
        x.rate(0, 1, 5);
        x.rate(1, 1, 4);
        x.rate(1, 15, 2);
        // dot 15, squares 9 and 41: 1048576 * 225 / 369 = 639375.6..
        due("whole part", x.weight(0, 1), 639375);
        due("the other way", x.weight(1, 0), 639375);
        // dot 8, squares 41 and 4: 1048576 * 64 / 164 = 409200.3..
        due("last item", x.weight(1, 15), 409200);
        due("no dot", x.weight(0, 15), 0);
        due("itself", x.weight(1, 1), 0);
        due("itself not rated", x.weight(2, 2), 0);
        due("not rated", x.weight(1, 2), 0);
        due("neither rated", x.weight(2, 3), 0);
        x.rate(1, 0, 5);
        // dot 15 + 20, squares 34 and 41: 1048576 * 1225 / 1394 = 921453.8..
        due("behind a change", x.weight(0, 1), 921453);
        x.rate(0, 1, 0);
        // dot 20, squares 34 and 16: 1048576 * 400 / 544 = 771011.7..
        due("behind one to 0", x.weight(0, 1), 771011);
        x.restart();
        due("behind a restart", x.weight(0, 1), 771011);
        NeighbourScores y = allRatedFive();
        due("the greatest", y.weight(0, 15), 1048576);
        due("no greater with itself", y.weight(15, 15), 0);
        for (int e : EDGES) {
            due("no item", y.weight(e, 0), BAD);
            due("no item", y.weight(0, e), BAD);
            due("no item with itself", y.weight(e, e), BAD);
        }
    }

    private static void neighbour() {
        topic("promise 11 neighbour");
        NeighbourScores x = new NeighbourScores();
        x.rate(0, 4, 1);
        x.rate(0, 2, 3);
        x.rate(0, 9, 2);
        x.rate(1, 9, 1);
        x.rate(0, 15, 5);
        x.rate(0, 0, 4);
        x.rate(1, 0, 1);
        list(x, 4, 2, 15, 0, 9);
        list(x, 2, 4, 15, 0, 9);
        list(x, 15, 2, 4, 0, 9);
        list(x, 0, 9, 2, 4, 15);
        list(x, 9, 0, 2, 4, 15);
        list(x, 3);
        x.rate(0, 4, 0);
        list(x, 4);
        list(x, 2, 15, 0, 9);
        for (int e : EDGES) {
            due("no item", x.neighbour(e, 0), BAD);
            due("no item, no entry", x.neighbour(e, e), BAD);
            due("no entry", x.neighbour(2, e), NONE);
        }
        due("entry 15", x.neighbour(2, 15), NONE);
        NeighbourScores y = new NeighbourScores();
        for (int i = 0; i < 16; i++) {
            y.rate(7, i, 1 + i % 5);
        }
        list(y, 8, 0, 1, 2, 3, 4, 5, 6, 7, 9, 10, 11, 12, 13, 14, 15);
    }

    private static void score() {
        topic("promise 12 score");
        NeighbourScores x = new NeighbourScores();
        x.rate(0, 0, 3);
        x.rate(0, 1, 5);
        x.rate(1, 1, 4);
        x.rate(1, 15, 2);
        due("one share", x.score(1, 0), 4L * 639375);
        due("of two items", x.score(0, 15), 5L * 409200);
        due("a rated item", x.score(0, 0), 5L * 639375);
        due("a rated item", x.score(1, 1), 2L * 409200);
        due("two shares", x.score(0, 1), 3L * 639375);
        x.rate(0, 15, 1);
        // 1 and 15: dot 13, squares 41 and 5; 0 and 1 as before.
        due("two shares", x.score(0, 1), 3L * 639375 + 1048576L * 169 / 205);
        due("no share", x.score(2, 1), 0);
        due("no share", x.score(0, 7), 0);
        due("no user 12", x.score(12, 0), BAD);
        for (int e : EDGES) {
            due("no user", x.score(e, 0), BAD);
            due("no item", x.score(0, e), BAD);
        }
        NeighbourScores y = allRatedFive();
        due("the greatest", y.score(11, 15), 15L * 5 * 1048576);
        due("none left", y.best(11, 0), NONE);
    }

    private static void best() {
        topic("promise 13 best");
        NeighbourScores x = new NeighbourScores();
        x.rate(0, 3, 2);
        x.rate(1, 3, 1);
        x.rate(1, 12, 5);
        x.rate(1, 6, 2);
        x.rate(2, 3, 4);
        x.rate(2, 9, 4);
        x.rate(3, 1, 1);
        bests(x, 0, 9, 6, 12);
        bests(x, 1, 9);
        bests(x, 2, 6, 12);
        bests(x, 3);
        bests(x, 11);
        x.rate(0, 9, 1);
        bests(x, 0, 6, 12);
        x.rate(0, 9, 0);
        bests(x, 0, 9, 6, 12);
        x.rate(1, 0, 5);
        x.rate(1, 15, 1);
        bests(x, 0, 9, 0, 6, 12, 15);
        due("no user 12", x.best(12, 0), BAD);
        for (int e : EDGES) {
            due("no user", x.best(e, 0), BAD);
            due("no user, no number", x.best(e, e), BAD);
            due("no number", x.best(0, e), NONE);
        }
    }

    private static void reads() {
        topic("promise 14 reads");
        NeighbourScores x = new NeighbourScores();
        due("nothing rated", x.reads(0, 1), 0);
        x.rate(0, 0, 1);
        due("no entries", x.reads(0, 1), 0);
        // One list, 0: 1 (3/5 of the whole), 2 (2/5), 3 (1/5). A limit is the very score of the
        // entry read last, so that k items stand above it only a round behind the k-th one.
        laySquares(x);
        due("list", x.neighbour(0, 0), 1);
        due("list", x.neighbour(0, 1), 2);
        due("list", x.neighbour(0, 2), 3);
        due("list", x.neighbour(0, 3), NONE);
        due("k 1", x.reads(4, 1), 2);
        due("k 2", x.reads(4, 2), 3);
        due("k 3", x.reads(4, 3), 3);
        due("k 16", x.reads(4, 16), 3);
        due("k 0", x.reads(4, 0), BAD);
        due("k 17", x.reads(4, 17), BAD);
        due("k -1", x.reads(4, -1), BAD);
        due("no user 12", x.reads(12, 1), BAD);
        for (int e : EDGES) {
            due("no user", x.reads(e, 1), BAD);
            due("no k", x.reads(4, e == 16 ? 17 : e), BAD);
        }
        readsOfTwoLists();
    }

    /** Item 0 rated by users 0 to 3 and, with it, 1 by three, 2 by two and 3 by one of them; user 4 rates 0. */
    private static void laySquares(NeighbourScores x) {
        int[] words = new int[24];
        words[0] = 0x1111;
        words[2] = 0x0111;
        words[4] = 0x0011;
        words[6] = 0x0001;
        words[8] = 0x0001;
        laySnapshot(x, 1, 100, words, true);
        x.restart();
    }

    private static void readsOfTwoLists() {
        // Weights: 0 and 1 836985, 0 and 3 38836, 0 and 2 37342, 1 and 2 5562; the others 0.
        NeighbourScores x = new NeighbourScores();
        x.rate(0, 0, 5);
        x.rate(0, 1, 5);
        x.rate(1, 0, 1);
        x.rate(1, 2, 5);
        x.rate(2, 1, 2);
        x.rate(2, 2, 1);
        x.rate(3, 0, 1);
        x.rate(3, 3, 3);
        list(x, 0, 1, 3, 2);
        list(x, 1, 0, 2);
        list(x, 2, 0, 1);
        list(x, 3, 0);
        // User 0: behind round 2 neither 3 (5 * 38836) nor 2 (5 * 37342 + 5 * 5562) is over the
        // limit 5 * 38836 + 5 * 5562; behind round 3 both are over 5 * 37342.
        due("two lists, k 1", x.reads(0, 1), 5);
        due("two lists, k 2", x.reads(0, 2), 5);
        // User 1: 1 (836985 + 5 * 5562) is not over 836985 + 5 * 37342, but over 38836 + 5 * 5562.
        due("the shares of all lists make the limit, k 1", x.reads(1, 1), 4);
        due("the rated items do not count, k 2", x.reads(1, 2), 5);
        // User 3: 1 (836985) is not over 836985 + 3 * 38836, but over 38836; 2 is never over its own.
        due("a list that has ended, k 1", x.reads(3, 1), 3);
        due("a list that has ended, k 2", x.reads(3, 2), 4);
        due("no entries", x.reads(11, 1), 0);
        // One list, of the last item: 0 (1/2 of the whole), 2 (1/6), and then 9 (1/3) between them.
        NeighbourScores y = new NeighbourScores();
        int[] words = new int[24];
        for (int u = 0; u < 5; u++) {
            words[2 * u] = u < 3 ? 1 : 0;
            words[2 * u + 1] = 0x10000000;
        }
        words[8] = 0x100;
        laySnapshot(y, 1, 1, words, true);
        y.restart();
        y.rate(11, 15, 1);
        list(y, 15, 0, 2);
        due("item 0 counts", y.reads(11, 1), 2);
        y.rate(4, 9, 1);
        y.rate(3, 9, 1);
        list(y, 15, 0, 9, 2);
        due("item 0 counts", y.reads(11, 1), 2);
        due("k 2", y.reads(11, 2), 3);
    }

    private static void share() {
        topic("promise 15 share");
        NeighbourScores x = new NeighbourScores();
        x.rate(0, 0, 3);
        x.rate(0, 1, 5);
        x.rate(1, 1, 4);
        x.rate(1, 15, 2);
        due("share", x.share(1, 0, 1), 4L * 639375);
        due("share", x.share(0, 0, 1), 5L * 639375);
        due("share", x.share(0, 1, 0), 3L * 639375);
        due("share", x.share(1, 1, 15), 2L * 409200);
        due("not rated", x.share(1, 1, 0), 0);
        due("itself", x.share(0, 1, 1), 0);
        due("no weight", x.share(0, 15, 0), 0);
        due("no user 12", x.share(12, 0, 1), BAD);
        for (int e : EDGES) {
            due("no user", x.share(e, 0, 1), BAD);
            due("no item", x.share(0, e, 1), BAD);
            due("no item", x.share(0, 0, e), BAD);
            due("no item with itself", x.share(0, e, e), BAD);
        }
    }

    private static void number() {
        topic("promise 16 number");
        NeighbourScores x = filled(7);
        numbers(x, 7, 0, 7);
        x.snapshot();
        numbers(x, 7, 7, 7);
        x.rate(0, 0, 0);
        numbers(x, 8, 7, 7);
        x.rate(1, 1, 0);
        numbers(x, 9, 7, 6);
        x.rate(2, 2, 5);
        numbers(x, 10, 7, 6);
        x.rate(11, 15, 1);
        numbers(x, 11, 7, 7);
        for (int how : new int[] {-1, 3, 4, Integer.MIN_VALUE, Integer.MAX_VALUE}) {
            due("number(" + how + ")", x.number(how), BAD);
        }
    }

    private static void allOff() {
        topic("OFF, before all other refusals");
        NeighbourScores x = filled(40);
        off(x);
        for (int e : new int[] {0, 99, -1}) {
            due("rate", x.rate(e, e, e), OFF);
            due("snapshot", x.snapshot(), OFF);
            due("rating", x.rating(e, e), OFF);
            due("weight", x.weight(e, e), OFF);
            due("neighbour", x.neighbour(e, e), OFF);
            due("score", x.score(e, e), OFF);
            due("best", x.best(e, e), OFF);
            due("reads", x.reads(e, e), OFF);
            due("share", x.share(e, e, e), OFF);
            due("number", x.number(e), OFF);
        }
        due("isOn", x.isOn(), false);
        due("power", x.power(4), true);
        due("spoil", x.spoil(0, 0), true);
        due("word", x.word(52), 40);
        due("restart", x.restart(), 40);
    }
}
