/** The boundary sentences of the document's head and of Term I, a test for each. */
public final class CityBankBoundsTermI extends Bounds {
    private static final int RATE = 0;
    private static final int FEE = 1;
    private static final int LAPSE = 2;
    private static final int FINE = 3;
    private static final int PULL = 4;
    private static final int STEP = 5;

    private CityBankBoundsTermI() {
    }

    public static void main(String[] args) {
        runAll(CityBankBoundsTermI.class);
    }

    // The head: "An object is used for at most 512 calls after it has been made"
    static void call512IsAnsweredAsDue() {
        CityBank x = new CityBank();
        for (int call = 1; call <= 511; call++) {
            due("call " + call, x.close(), 0);
        }
        due("call 512", x.count(0), 511);
    }

    // The head, the same sentence: of the calls that keep most, 512 have room
    static void call512OfAFullBankIsAnsweredAsDue() {
        CityBank x = new CityBank();
        x.kind(1, 1, 1000);
        x.account();
        x.account();
        x.row(0, 0, 1);
        x.write(0, 0, 1);
        for (int i = 0; i < 200; i++) {
            due("take", x.take(0, 0, 0), 1);
        }
        for (int i = 0; i < 300; i++) {
            due("order", x.order(0, 1, 1, 5, 0), i);
        }
        due("call 506", x.close(), 200);
        due("call 507", x.count(6), 600);
        due("call 508", x.balance(1), 200);
        due("call 509", x.written(0), 0);
        due("call 510", x.suspects(0), -1);
        due("call 511", x.folio(1, 24), 74);
        due("call 512", x.count(7), 75);
    }

    // The public face: "public static final int NONE = -1;"
    static void noneIsMinus1() {
        due("NONE", CityBank.NONE, -1);
    }

    // Term I: "DAYS go from 0 on, 5000 at most."
    static void daysGoFrom0To5000() {
        CityBank x = new CityBank();
        due("the first DAY", x.count(0), 0);
        pass(x, 4999);
        due("DAY", x.count(0), 4999);
        due("close", x.close(), 0);
        due("the last DAY", x.count(0), 5000);
        refused(x, "close", () -> x.close(), -9);
    }

    // Term I: "SLOTS 0 .. 3 have rows of numbers"
    static void slotsGoFrom0To3() {
        CityBank x = bank(1);
        for (int slot = 0; slot <= 3; slot++) {
            due("row", x.row(slot, 3, 1), 0);
            due("write", x.write(slot, 0, 7), 0);
            due("weighed", x.weighed(0, slot, 3), 7);
            due("take", x.take(0, 0, slot), 1);
            due("paste", x.paste(slot, 0, slot, 0, 1), 0);
        }
        for (int slot : new int[] {-1, 4}) {
            refused(x, "row of " + slot, () -> x.row(slot, 3, 1), -2);
            refused(x, "write of " + slot, () -> x.write(slot, 0, 7), -2);
            refused(x, "weighed of " + slot, () -> x.weighed(0, slot, 3), -2);
            refused(x, "take of " + slot, () -> x.take(0, 0, slot), -2);
            refused(x, "paste from " + slot, () -> x.paste(slot, 0, 0, 0, 1), -2);
            refused(x, "paste to " + slot, () -> x.paste(0, 0, slot, 0, 1), -2);
            refused(x, "tear of " + slot, () -> x.tear(slot));
        }
        due("tear of 0", x.tear(0), true);
        due("tear of 3", x.tear(3), true);
    }

    // Term I: "numbers of 1, 2, 4 or 8 bytes (WIDTH 0 .. 3)"
    static void widthsGoFrom0To3() {
        CityBank x = bank(1);
        refused(x, "WIDTH -1", () -> x.row(0, -1, 1), -2);
        for (int width = 0; width <= 3; width++) {
            due("WIDTH " + width, x.row(0, width, 1), 0);
        }
        refused(x, "WIDTH 4", () -> x.row(0, 4, 1), -2);
    }

    /** What is written to a number of a WIDTH, and the weight that is seen then (0: no coin is taken). */
    private static void seen(int width, long written, long weight) {
        CityBank x = bank(1);
        fill(x, 0, width, written);
        due("weight of " + written, x.weighed(0, 0, 3), weight);
        due("take of " + written, x.take(0, 0, 0), weight == 0 ? 0 : 1);
    }

    // Term I, the same sentence: what 1 byte holds (it has a sign)
    static void aNumberOf1ByteWrapsAt128() {
        seen(0, 127, 127);
        seen(0, 128, 0);
        seen(0, 255, 0);
        seen(0, 256, 0);
        seen(0, 257, 1);
        seen(0, -1, 0);
        seen(0, -129, 127);
    }

    // Term I, the same sentence: what 2 bytes hold
    static void aNumberOf2BytesWrapsAt32768() {
        seen(1, 128, 128);
        seen(1, 32767, 32767);
        seen(1, 32768, 0);
        seen(1, 65535, 0);
        seen(1, 65536, 0);
        seen(1, 65537, 1);
        seen(1, -32769, 32767);
    }

    // Term I, the same sentence: what 4 bytes hold
    static void aNumberOf4BytesWrapsAtTwoToThe31() {
        seen(2, 32768, 32768);
        seen(2, 100000, 100000);
        seen(2, (1L << 31) + 5, 0);
        seen(2, (1L << 32) - 5, 0);
        seen(2, 1L << 32, 0);
        seen(2, (1L << 32) + 5, 5);
        seen(2, 5 - (1L << 32), 5);
    }

    // Term I, the same sentence: what 8 bytes hold
    static void aNumberOf8BytesIsNotCut() {
        seen(3, 100000, 100000);
        seen(3, (1L << 32) + 5, 0);
        seen(3, Long.MAX_VALUE, 0);
        seen(3, Long.MIN_VALUE, 0);
    }

    // Term I: "at most 60, or nothing"
    static void aRowHasAtMost60Numbers() {
        CityBank x = bank(1);
        due("row of 60", x.row(0, 0, 60), 0);
        due("its last number", x.write(0, 59, 1), 0);
        refused(x, "number 60", () -> x.write(0, 60, 1), -6);
        refused(x, "row of 61", () -> x.row(0, 0, 61), -2);
        due("row of 59", x.row(0, 0, 59), 0);
        refused(x, "number 59", () -> x.write(0, 59, 1), -6);
    }

    // Term I, the same sentence: a row of no numbers is a row, not nothing
    static void aRowOfNoNumbersIsNotNothing() {
        CityBank x = bank(1);
        due("nothing", x.weighed(0, 0, 2), -5);
        due("row of 0", x.row(0, 0, 0), 0);
        due("SLOTS that have a row", x.count(10), 1);
        due("how many", x.weighed(0, 0, 2), 0);
        due("take", x.take(0, 0, 0), 0);
        refused(x, "number 0", () -> x.write(0, 0, 1), -6);
        due("paste of none", x.paste(0, 0, 0, 0, 0), 0);
        due("tear", x.tear(0), true);
        due("nothing", x.take(0, 0, 0), -5);
    }

    // Term I: "KINDS of coin, 6 at most"
    static void kindsAre6AtMost() {
        CityBank x = new CityBank();
        for (int i = 0; i < 6; i++) {
            due("kind", x.kind(10, 1, 1000), i);
        }
        refused(x, "kind 6", () -> x.kind(10, 1, 1000), -3);
        due("KINDS", x.count(1), 6);
    }

    // Term I: "FULL weight (1 .. 100000)"
    static void fullIs1To100000() {
        CityBank x = new CityBank();
        refused(x, "FULL 0", () -> x.kind(0, 1, 1000), -2);
        refused(x, "FULL 100001", () -> x.kind(100001, 1, 1000), -2);
        due("FULL 1", x.kind(1, 1, 1000), 0);
        due("FULL 100000", x.kind(100000, 1, 1000), 1);
        fill(x, 0, 2, 1, 2, 99999, 100000, 100001);
        due("the greatest of FULL 1", x.weighed(0, 0, 1), 1);
        due("the greatest of FULL 100000", x.weighed(1, 0, 1), 100000);
        due("how many of these", x.weighed(1, 0, 2), 4);
    }

    // Term I: "LEAST (1 .. FULL)"
    static void leastIs1ToFull() {
        CityBank x = new CityBank();
        refused(x, "LEAST 0", () -> x.kind(100, 0, 1000), -2);
        refused(x, "LEAST above FULL", () -> x.kind(100, 101, 1000), -2);
        due("LEAST 1", x.kind(100, 1, 1000), 0);
        due("LEAST is FULL", x.kind(100, 100, 1000), 1);
        fill(x, 0, 2, 0, 1, 99, 100, 101);
        due("how many of LEAST 1", x.weighed(0, 0, 2), 3);
        due("how many of LEAST 100", x.weighed(1, 0, 2), 1);
    }

    // Term I: "FINENESS (1 .. 1000)"
    static void finenessIs1To1000() {
        CityBank x = new CityBank();
        refused(x, "FINENESS 0", () -> x.kind(1000, 1, 0), -2);
        refused(x, "FINENESS 1001", () -> x.kind(1000, 1, 1001), -2);
        due("FINENESS 1", x.kind(1000, 1, 1), 0);
        due("FINENESS 1000", x.kind(1000, 1, 1000), 1);
        fill(x, 0, 1, 1000);
        due("BOOK by FINENESS 1", x.weighed(0, 0, 4), 1);
        due("BOOK by FINENESS 1000", x.weighed(1, 0, 4), 1000);
    }

    /** Of one of the TERMS: its least and greatest value are taken, those one beyond are not. */
    private static void ends(int which, int least, int greatest) {
        CityBank x = bank(1);
        due("least", termsOf(x, firstTermsBut(which, least)), 0);
        due("greatest", termsOf(x, firstTermsBut(which, greatest)), 0);
        refused(x, "below", () -> termsOf(x, firstTermsBut(which, least - 1)), -2);
        refused(x, "above", () -> termsOf(x, firstTermsBut(which, greatest + 1)), -2);
    }

    private static CityBank bankBy(int which, int value) {
        CityBank x = bank(2);
        due("terms", termsOf(x, firstTermsBut(which, value)), 0);
        return x;
    }

    // Term I: "RATE (1 .. 100000; at first 1000)"
    static void rateIs1To100000() {
        ends(RATE, 1, 100000);
        long[][] books = {{1, 999, 0}, {1, 1000, 1}, {100000, 1, 100}, {100000, 1000, 100000}};
        for (long[] b : books) {
            CityBank x = bankBy(RATE, (int) b[0]);
            bring(x, 0, b[1]);
            due("BOOK of " + b[1] + " by RATE " + b[0], x.book(0), b[2]);
        }
    }

    // Term I, the same sentence: "at first 1000"
    static void rateIs1000AtFirst() {
        CityBank x = bank(1);
        bring(x, 0, 99999);
        due("BOOK", x.book(0), 99999);
    }

    // Term I: "FEE (0 .. 100; 5)"
    static void feeIs0To100() {
        ends(FEE, 0, 100);
        CityBank x = bankBy(FEE, 0);
        bring(x, 0, 1000);
        due("FEE of 0", x.prolong(0), 0);
        CityBank y = bankBy(FEE, 100);
        bring(y, 0, 1000);
        due("FEE of 100", y.prolong(0), 100);
    }

    // Term I, the same sentence: at first 5
    static void feeIs5AtFirst() {
        CityBank x = bank(1);
        bring(x, 0, 1000);
        due("FEE", x.prolong(0), 5);
    }

    // Term I: "LAPSE (1 .. 1000; 180)"
    static void lapseIs1To1000() {
        ends(LAPSE, 1, 1000);
        for (int lapse : new int[] {1, 1000}) {
            CityBank x = bankBy(LAPSE, lapse);
            bring(x, 0, 1000);
            due("due by LAPSE " + lapse, x.receipt(0, 4), lapse);
        }
    }

    // Term I, the same sentence: at first 180
    static void lapseIs180AtFirst() {
        CityBank x = bank(1);
        bring(x, 0, 1000);
        due("due", x.receipt(0, 4), 180);
    }

    private static long balanceBehindAFine(CityBank x, long weight, long sum) {
        bring(x, 0, weight);
        due("order", today(x, 0, 1, sum), 0);
        due("close", x.close(), 0);
        return x.balance(0);
    }

    // Term I: "FINE (0 .. 100; 3)"
    static void fineIs0To100() {
        ends(FINE, 0, 100);
        due("FINE of 0", balanceBehindAFine(bankBy(FINE, 0), 999, 1000), 999);
        due("FINE of 1", balanceBehindAFine(bankBy(FINE, 1), 999, 1000), 989);
        due("FINE of 99", balanceBehindAFine(bankBy(FINE, 99), 999, 1000), 9);
        due("FINE of 100", balanceBehindAFine(bankBy(FINE, 100), 999, 1000), 0);
    }

    // Term I, the same sentence: at first 3
    static void fineIs3AtFirst() {
        due("FINE", balanceBehindAFine(bank(2), 999, 1000), 969);
    }

    /** AGIO behind a day on which account 0, which has 90000, paid a sum, by these terms. */
    private static int agioBehind(int pull, int step, int low, int top, long sum) {
        CityBank x = settledBank(2, 90000);
        due("terms", x.terms(1000, 5, 180, 3, pull, step, low, top), 0);
        due("order", today(x, 0, 1, sum), 0);
        due("close", x.close(), 1);
        return x.count(8);
    }

    // Term I: "PULL (0 .. 1000; 10)"
    static void pullIs0To1000() {
        ends(PULL, 0, 1000);
        due("PULL 0", agioBehind(0, 100, -100, 300, 60000), 40);
        due("PULL 1: 60000 / 61000", agioBehind(1, 100, -100, 300, 60000), 40);
        due("PULL 2: 120000 / 61000", agioBehind(2, 100, -100, 300, 60000), 41);
        due("PULL 999: 64935 / 1065", agioBehind(999, 100, -100, 300, 65), 100);
        due("PULL 1000: 65000 / 1065", agioBehind(1000, 100, -100, 300, 65), 101);
    }

    // Term I, the same sentence: at first 10
    static void pullIs10AtFirst() {
        // 10 * -112 / 1112 is -1, 10 * -111 / 1111 is 0; by 9 both were 0, by 11 both -1
        CityBank x = bank(1);
        bring(x, 0, 111);
        x.close();
        due("AGIO", x.count(8), 40);
        bring(x, 0, 112);
        x.close();
        due("AGIO", x.count(8), 39);
    }

    // Term I: "STEP (0 .. 100; 5)"
    static void stepIs0To100() {
        ends(STEP, 0, 100);
        due("STEP 0", agioBehind(1000, 0, -100, 300, 60000), 40);
        due("STEP 1", agioBehind(1000, 1, -100, 300, 60000), 41);
        due("STEP 99", agioBehind(1000, 99, -100, 300, 60000), 139);
        due("STEP 100", agioBehind(1000, 100, -100, 300, 60000), 140);
    }

    // Term I, the same sentence: at first 5
    static void stepIs5AtFirst() {
        CityBank x = bank(1);
        bring(x, 0, 90000);
        x.close();
        due("10 * -90000 / 91000 is -9, cut to -5", x.count(8), 35);
    }

    // Term I: "LOW and TOP (-100 .. 300, LOW not above TOP; 30, 60)", of LOW
    static void lowIsNotBelowMinus100() {
        CityBank x = bank(1);
        refused(x, "LOW -101", () -> x.terms(1000, 5, 180, 3, 10, 5, -101, 60), -2);
        due("LOW -100", x.terms(1000, 5, 180, 3, 10, 5, -100, 60), 0);
        refused(x, "LOW and TOP -101", () -> x.terms(1000, 5, 180, 3, 10, 5, -101, -101), -2);
        due("LOW and TOP -100", x.terms(1000, 5, 180, 3, 10, 5, -100, -100), 0);
        x.close();
        due("AGIO", x.count(8), -100);
        due("sold", x.sum(3), 140);
    }

    // Term I, the same sentence, of TOP
    static void topIsNotAbove300() {
        CityBank x = bank(1);
        refused(x, "TOP 301", () -> x.terms(1000, 5, 180, 3, 10, 5, 30, 301), -2);
        due("TOP 300", x.terms(1000, 5, 180, 3, 10, 5, 30, 300), 0);
        refused(x, "LOW and TOP 301", () -> x.terms(1000, 5, 180, 3, 10, 5, 301, 301), -2);
        due("LOW and TOP 300", x.terms(1000, 5, 180, 3, 10, 5, 300, 300), 0);
        x.close();
        due("AGIO", x.count(8), 300);
        due("bought", x.sum(4), 260);
    }

    // Term I, the same sentence: "LOW not above TOP"
    static void lowIsNotAboveTop() {
        CityBank x = bank(1);
        due("LOW below TOP", x.terms(1000, 5, 180, 3, 10, 5, 49, 50), 0);
        due("LOW is TOP", x.terms(1000, 5, 180, 3, 10, 5, 50, 50), 0);
        refused(x, "LOW above TOP", () -> x.terms(1000, 5, 180, 3, 10, 5, 51, 50), -2);
        x.close();
        due("AGIO", x.count(8), 50);
    }

    // Term I, the same sentence: at first 30
    static void lowIs30AtFirst() {
        CityBank x = bank(1);
        for (int day = 0; day < 2; day++) {
            bring(x, 0, 90000);
            x.close();
        }
        due("AGIO", x.count(8), 30);
        due("bought", x.sum(4), 0);
        bring(x, 0, 90000);
        x.close();
        due("AGIO", x.count(8), 30);
        due("bought", x.sum(4), 5);
    }

    // Term I, the same sentence: at first 60
    static void topIs60AtFirst() {
        CityBank x = bank(2);
        bring(x, 0, 90000);
        x.close();
        for (int day = 0; day < 5; day++) {
            today(x, 0, 1, 10000);
            x.close();
        }
        due("AGIO: 35 and 5 times 5", x.count(8), 60);
        due("sold", x.sum(3), 0);
        today(x, 0, 1, 10000);
        x.close();
        due("AGIO", x.count(8), 60);
        due("sold", x.sum(3), 5);
    }

    // Term I: "BOOK of a weight w of a KIND: w * FINENESS / 1000, that * RATE / 1000 (each cut)", the first cut
    static void bookIsCutByFineness() {
        CityBank x = new CityBank();
        x.kind(100000, 1, 333);
        long[][] books = {{1, 0}, {3, 0}, {4, 1}, {6, 1}, {7, 2}, {1000, 333}, {1001, 333}, {3003, 999}, {3004, 1000}};
        for (long[] b : books) {
            fill(x, 0, 2, b[0]);
            due("BOOK of " + b[0], x.weighed(0, 0, 4), b[1]);
        }
    }

    // Term I, the same sentence, the second cut
    static void bookIsCutByRate() {
        CityBank x = bank(1);
        x.terms(1333, 5, 180, 3, 10, 5, 30, 60);
        long[][] books = {{1, 1}, {3, 3}, {4, 5}, {1000, 1333}, {1001, 1334}, {1002, 1335}, {1003, 1336}, {1004, 1338}};
        for (long[] b : books) {
            fill(x, 0, 2, b[0]);
            due("BOOK of " + b[0], x.weighed(0, 0, 4), b[1]);
        }
    }

    // Term I, the same sentence: it is cut twice, not once
    static void bookIsCutTwice() {
        CityBank x = new CityBank();
        x.kind(100000, 1, 500);
        x.terms(2000, 5, 180, 3, 10, 5, 30, 60);
        long[][] books = {{1, 0}, {2, 2}, {3, 2}, {4, 4}};
        for (long[] b : books) {
            fill(x, 0, 2, b[0]);
            due("BOOK of " + b[0], x.weighed(0, 0, 4), b[1]);
        }
    }

    // Term I, the same sentence: of the greatest weight and RATE nothing wraps around
    static void bookOfTheMostDoesNotWrap() {
        CityBank x = richBank(1);
        due("BOOK of a RECEIPT", x.book(0), 600000000L);
        for (int i = 2; i < 200; i++) {
            due("take", x.take(0, 0, 3), 60);
        }
        due("weight of the VAULT", x.vault(0, 1), 1200000000L);
        due("BOOK of the VAULT", x.vault(0, 2), 120000000000L);
        due("BALANCE", x.balance(0), 120000000000L);
    }

    // Term I: "AGIO is 40 at first."
    static void agioIs40AtFirst() {
        CityBank x = new CityBank();
        due("AGIO", x.count(8), 40);
        due("close", x.close(), 0);
        due("AGIO behind a day of nothing", x.count(8), 40);
    }
}
