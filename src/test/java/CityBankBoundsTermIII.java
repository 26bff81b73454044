/** The boundary sentences of Term III (orders, slips, books and suspects), a test for each. */
public final class CityBankBoundsTermIII extends Bounds {
    private static final int WHOLE = 0;
    private static final int HALF = 1;
    private static final int NINES = 2;

    private CityBankBoundsTermIII() {
    }

    public static void main(String[] args) {
        runAll(CityBankBoundsTermIII.class);
    }

    // ---- orders

    // Term III: "ORDERS from 0 on, 300 at most."
    static void ordersAre300AtMost() {
        CityBank x = bank(2);
        for (int order = 0; order < 300; order++) {
            due("order", today(x, 0, 1, 5), order);
        }
        refused(x, "order 300", () -> today(x, 0, 1, 5), -3);
        refused(x, "bill 300", () -> x.bill(0, 1, 5, 0), -3);
        due("ORDERS", x.count(3), 300);
        due("close", x.close(), 0);
        refused(x, "order 300, none waiting", () -> today(x, 0, 1, 5), -3);
    }

    // Term III: "As a DAY is closed those that wait of this DAY (or one ahead) are carried out"
    static void ordersOfThisDayAreCarriedOut() {
        CityBank x = bank(2);
        bring(x, 0, 100);
        due("order of this DAY", x.order(0, 1, 1, 10, 0), 0);
        due("order of the next", x.order(0, 1, 2, 11, 0), 1);
        due("bill of this DAY", x.bill(0, 1, 4, 0), 2);
        due("bill of the next", x.bill(0, 1, 8, 1), 3);
        due("bill of the one behind it", x.bill(0, 1, 16, 2), 4);
        due("close of DAY 0", x.close(), 2);
        due("BALANCE", x.balance(1), 1 + 4);
        due("close of DAY 1", x.close(), 2);
        due("BALANCE", x.balance(1), 1 + 4 + 2 + 8);
        due("close of DAY 2", x.close(), 1);
        due("BALANCE", x.balance(1), 31);
        due("close of DAY 3", x.close(), 0);
    }

    /** The orders in which debits stand in the lines from one on. */
    private static String debits(CityBank x, int fromLine) {
        StringBuilder found = new StringBuilder();
        for (int line = fromLine; line < x.count(6); line++) {
            if (x.line(line, 3) == 0) {
                found.append(x.line(line, 4)).append(' ');
            }
        }
        return found.toString();
    }

    // Term III: "by hours"
    static void ordersAreCarriedOutByHours() {
        CityBank x = bank(2);
        bring(x, 0, 1000);
        int[] hours = {23, 12, 11};
        for (int order = 0; order < 3; order++) {
            due("order for the next DAY", x.order(0, 1, 5, hours[order], 0), order);
        }
        x.close();
        due("order of hour 10", x.order(0, 1, 5, 10, 0), 3);
        due("order of hour 1", x.order(0, 1, 5, 1, 0), 4);
        due("order of hour 0", x.order(0, 1, 5, 0, 0), 5);
        due("bill, of hour 9", x.bill(0, 1, 5, 0), 6);
        due("close", x.close(), 7);
        same("ORDERS by their LINES", debits(x, 1), "5 4 6 3 2 1 0 ");
    }

    // Term III: "of one hour by numbers"
    static void ordersOfOneHourAreCarriedOutByNumbers() {
        CityBank x = bank(2);
        bring(x, 0, 1000);
        due("bill for DAY 1", x.bill(0, 1, 5, 1), 0);
        x.close();
        due("order of hour 9", x.order(0, 1, 5, 9, 0), 1);
        due("bill of hour 9", x.bill(0, 1, 5, 0), 2);
        due("order of hour 9", x.order(0, 1, 5, 9, 0), 3);
        due("order of hour 8", x.order(0, 1, 5, 8, 0), 4);
        due("close", x.close(), 5);
        same("ORDERS by their LINES", debits(x, 1), "4 0 1 2 3 ");
    }

    // Term III: "REFUSED, if the signer is neither HOLDER nor ATTORNEY of the ACCOUNT"
    static void ordersOfAWrongSignerAreRefused() {
        CityBank x = bank(3);
        bring(x, 0, 100);
        x.attorney(0, 50, 5000);
        x.attorney(1, 60, 5000);
        int[][] signed = {{0, 1}, {50, 1}, {49, 2}, {51, 2}, {60, 2}, {1, 2}, {99, 2}};
        for (int[] s : signed) {
            int order = x.order(0, 1, 5, 5, s[0]);
            x.close();
            due("signed by " + s[0], x.orderOf(order, 4), s[1]);
        }
        due("BALANCE: a signer costs no FINE", x.balance(0), 90);
    }

    // Term III, the same sentence: "(on this DAY not behind the last)"
    static void anAttorneySignsUpToHisLastDay() {
        CityBank x = bank(2);
        bring(x, 0, 100);
        x.attorney(0, 50, 1);
        int[] how = {1, 1, 2};
        for (int day = 0; day < 3; day++) {
            int order = x.order(0, 1, 5, 5, 50);
            x.close();
            due("order of DAY " + day, x.orderOf(order, 4), how[day]);
        }
    }

    // Term III, the same sentence: the DAY is the one on which the ORDER is carried out, not the one it was told on
    static void anAttorneysLastDayIsAskedAsTheOrderIsCarriedOut() {
        CityBank x = bank(2);
        bring(x, 0, 100);
        x.attorney(0, 50, 0);
        due("order for the next DAY", x.order(0, 1, 5, 11, 50), 0);
        due("order of the last DAY", x.order(0, 1, 5, 10, 50), 1);
        pass(x, 2);
        due("the next DAY's", x.orderOf(0, 4), 2);
        due("the last DAY's", x.orderOf(1, 4), 1);
    }

    // Term III, the same sentence: who is ATTORNEY is asked as the ORDER is carried out too
    static void theAttorneyIsTheOneAsTheOrderIsCarriedOut() {
        CityBank x = bank(2);
        bring(x, 0, 100);
        x.attorney(0, 50, 5000);
        due("signed by who is ATTORNEY now", x.order(0, 1, 5, 5, 50), 0);
        due("signed by who will be", x.order(0, 1, 5, 5, 60), 1);
        x.attorney(0, 60, 5000);
        due("close", x.close(), 1);
        due("who was ATTORNEY", x.orderOf(0, 4), 2);
        due("who is", x.orderOf(1, 4), 1);
    }

    // Term III: "else REFUSED, if its BALANCE is below the sum"
    static void ordersAboveTheBalanceAreRefused() {
        CityBank x = bank(2);
        bring(x, 0, 20);
        due("one above", today(x, 0, 1, 21), 0);
        due("just that", today(x, 0, 1, 20), 1);
        due("nothing is left", today(x, 0, 1, 1), 2);
        due("close", x.close(), 1);
        due("one above", x.orderOf(0, 4), 3);
        due("just that", x.orderOf(1, 4), 1);
        due("nothing is left", x.orderOf(2, 4), 3);
        due("BALANCE", x.balance(0), 0);
        due("BALANCE of the other", x.balance(1), 20);
    }

    // Term III, the same sentence: "else", the signer is asked ahead of the BALANCE
    static void theSignerIsAskedAheadOfTheBalance() {
        CityBank x = bank(2);
        bring(x, 0, 500);
        due("both are wrong", x.order(0, 1, 1000, 5, 1), 0);
        due("the BALANCE is wrong", x.order(0, 1, 1000, 5, 0), 1);
        x.close();
        due("both are wrong", x.orderOf(0, 4), 2);
        due("the BALANCE is wrong", x.orderOf(1, 4), 3);
        due("one FINE is paid", x.balance(0), 470);
    }

    private static void fineOf(long balance, long sum, long want) {
        CityBank x = bank(2);
        bring(x, 0, balance);
        today(x, 0, 1, sum);
        due("close", x.close(), 0);
        due("FINE for " + sum + " of " + balance, balance - x.balance(0), want);
        due("FINES", x.sum(2), want);
    }

    // Term III: "sum * FINE / 100 (cut) ... is paid"
    static void aFineIsCut() {
        fineOf(30, 33, 0);
        fineOf(30, 34, 1);
        fineOf(30, 66, 1);
        fineOf(30, 67, 2);
        fineOf(30, 99, 2);
        fineOf(30, 100, 3);
    }

    // Term III, the same sentence: FINE is the one of the TERMS as the DAY is closed
    static void aFineIsByTheTermsOfTheClosing() {
        CityBank x = bank(2);
        bring(x, 0, 500);
        due("order", today(x, 0, 1, 1000), 0);
        x.terms(1000, 5, 180, 20, 10, 5, 30, 60);
        due("close", x.close(), 0);
        due("FINE of 20 parts", x.balance(0), 300);
        x.terms(1000, 5, 180, 0, 10, 5, 30, 60);
        due("order", today(x, 0, 1, 1000), 1);
        due("close", x.close(), 0);
        due("no FINE", x.balance(0), 300);
        due("FINES", x.sum(2), 200);
    }

    // Term III: "but at most the BALANCE"
    static void aFineIsAtMostTheBalance() {
        fineOf(4, 100, 3);
        fineOf(3, 100, 3);
        fineOf(2, 100, 2);
        fineOf(1, GREATEST_SUM, 1);
    }

    // Term III: "the debit is written, then the credit (these LINES are the ORDER's, no others)"
    static void theDebitIsWrittenThenTheCredit() {
        CityBank x = bank(2);
        x.terms(1000, 100, 180, 3, 10, 5, 30, 60);
        bring(x, 0, 100);
        bring(x, 0, 100);
        due("prolong", x.prolong(0), 10);
        due("redeem", x.redeem(1), 110);
        today(x, 0, 1, 7);
        today(x, 0, 1, 100);
        due("close", x.close(), 1);
        int[] orders = {-1, -1, -1, -1, 0, 0, -1};
        int[] sides = {1, 1, 0, 0, 0, 1, 0};
        int[] accounts = {0, 0, 0, 0, 0, 1, 0};
        due("LINES", x.count(6), 7);
        for (int line = 0; line < 7; line++) {
            due("ORDER of LINE " + line, x.line(line, 4), orders[line]);
            due("side of LINE " + line, x.line(line, 3), sides[line]);
            due("ACCOUNT of LINE " + line, x.line(line, 1), accounts[line]);
        }
    }

    // ---- slips

    // Term III: "by how 0 the credit is left out"
    static void bySlip0TheCreditIsLeftOut() {
        CityBank x = bank(2);
        bring(x, 0, 100);
        today(x, 0, 1, 1);
        x.slip(0, 0, 0);
        due("close", x.close(), 1);
        due("LINES", x.count(6), 2);
        due("the debit", x.line(1, 3), 0);
        due("FOLIOS of the other", x.accountOf(1, 1), 0);
    }

    // Term III: "by 1 it is written as a debit"
    static void bySlip1TheCreditIsADebit() {
        CityBank x = bank(2);
        bring(x, 0, 100);
        today(x, 0, 1, 1);
        x.slip(0, 1, 0);
        due("close", x.close(), 1);
        due("side", x.line(2, 3), 0);
        due("ACCOUNT", x.line(2, 1), 1);
        due("sum", x.lineSum(2), 1);
        due("written, below 0", x.written(1), -1);
    }

    private static void exchanged(long sum, int place, long want) {
        CityBank x = richBank(2);
        today(x, 0, 1, sum);
        due("slip at " + place, x.slip(0, 2, place), 0);
        due("close", x.close(), 1);
        due("LINES", x.count(6), 4);
        due("credit of " + sum + " exchanged at " + place, x.lineSum(3), want);
        due("side", x.line(3, 3), 1);
        due("ACCOUNT", x.line(3, 1), 1);
        due("BALANCE", x.balance(1), sum);
    }

    // Term III: "by 2 with the digits at places x and x + 1 (0 the lowest ...) exchanged"
    static void bySlip2DigitsAreExchanged() {
        exchanged(987654321, 0, 987654312);
        exchanged(987654321, 1, 987654231);
        exchanged(987654321, 7, 897654321);
        exchanged(987654321, 8, 9087654321L);
        exchanged(GREATEST_SUM, 8, 100000000);
        exchanged(GREATEST_SUM, 7, GREATEST_SUM);
        exchanged(10, 0, 1);
        exchanged(11, 0, 11);
    }

    // Term III, the same sentence: "noughts ahead of the sum count"
    static void noughtsAheadOfTheSumCount() {
        exchanged(1, 0, 10);
        exchanged(1, 1, 1);
        exchanged(99, 1, 909);
        exchanged(99, 2, 99);
        exchanged(99999999, 7, 909999999);
        exchanged(999999999, 8, 9099999999L);
    }

    // Term III: "(A sum of 0 that comes so is not written.)": an exchange makes no sum from 1 on 0
    static void noSlipMakesASumOf0() {
        for (int place = 0; place <= 8; place++) {
            exchanged(1, place, place == 0 ? 10 : 1);
            exchanged(GREATEST_SUM, place, place == 8 ? 100000000 : GREATEST_SUM);
        }
    }

    // Term III: "by 3 on ACCOUNT x"
    static void bySlip3TheCreditIsOnAnotherAccount() {
        CityBank x = bank(24);
        bring(x, 0, 100);
        today(x, 0, 1, 5);
        today(x, 1, 2, 4);
        due("the highest ACCOUNT", x.slip(0, 3, 23), 0);
        due("the lowest ACCOUNT", x.slip(1, 3, 0), 0);
        due("close", x.close(), 2);
        due("ACCOUNT of the first credit", x.line(2, 1), 23);
        due("its FOLIO", x.line(2, 2), x.accountOf(23, 0));
        due("ACCOUNT of the second", x.line(4, 1), 0);
        due("written of 23", x.written(23), 5);
        due("written of 0", x.written(0), 99);
    }

    // Term III: "BALANCES are as they should be."
    static void balancesAreAsTheyShouldBeForAllSlips() {
        for (int how = 0; how <= 3; how++) {
            CityBank x = bank(3);
            bring(x, 0, 100);
            today(x, 0, 1, 12);
            x.slip(0, how, how == 3 ? 2 : 0);
            due("close", x.close(), 1);
            due("BALANCE of who pays", x.balance(0), 88);
            due("BALANCE of who is paid", x.balance(1), 12);
            due("BALANCE of another", x.balance(2), 0);
            due("FEES and FINES", x.sum(2), 0);
        }
    }

    // ---- books and suspects

    /** Orders of one day, each a sum, how it slips (-1: not) and x; the day is closed. Line 0 brought the coins. */
    private static CityBank dayOf(long[][] orders) {
        CityBank x = bank(3);
        bring(x, 0, 90000);
        for (long[] o : orders) {
            int order = today(x, 0, 1, o[0]);
            if (o[1] >= 0) {
                due("slip", x.slip(order, (int) o[1], (int) o[2]), 0);
            }
        }
        due("close", x.close(), orders.length);
        return x;
    }

    /** The suspects of day 0 are these lines, each with how it could be. */
    private static void suspectsAre(CityBank x, int[][] want) {
        due("suspects", x.suspects(0), want.length);
        for (int i = 0; i < want.length; i++) {
            due("LINE of SUSPECT " + i, x.suspect(i, 0), want[i][0]);
            due("how of SUSPECT " + i, x.suspect(i, 1), want[i][1]);
        }
        due("no more of them", x.suspect(want.length, 0), -1);
    }

    // Term III: "They balance if D is 0."
    static void booksBalanceIfDIs0() {
        // 9 is left out, 1 is written as 10: D is 0 though two clerks slipped
        due("D of 0", dayOf(new long[][] {{9, 0, 0}, {1, 2, 0}}).suspects(0), -1);
        // D of 1: the debit of 1 is line 2
        suspectsAre(dayOf(new long[][] {{10, 0, 0}, {1, 2, 0}}), new int[][] {{2, WHOLE}});
        // D of -1: no debit is below 0, and it is no multiple of 9
        suspectsAre(dayOf(new long[][] {{8, 0, 0}, {1, 2, 0}}), new int[][] {});
        due("no ORDERS", dayOf(new long[][] {}).suspects(0), -1);
        due("no slip", dayOf(new long[][] {{5, -1, 0}}).suspects(0), -1);
        due("digits that are alike", dayOf(new long[][] {{55, 2, 0}}).suspects(0), -1);
        due("another ACCOUNT", dayOf(new long[][] {{5, 3, 2}}).suspects(0), -1);
    }

    // Term III: "D is the sum of debits less that of credits, of LINES of that DAY that are an ORDER's."
    static void booksAreOfTheDayAndOfOrdersAlone() {
        CityBank x = bank(2);
        x.terms(1000, 100, 180, 10, 10, 5, 30, 60);
        bring(x, 0, 100);
        due("a FEE of 10, of DAY 0", x.prolong(0), 10);
        today(x, 0, 1, 10);
        x.slip(0, 0, 0);
        today(x, 0, 1, 100);
        x.close();
        due("a FINE of 10, of DAY 0", x.lineSum(3), 10);
        today(x, 0, 1, 10);
        x.close();
        today(x, 0, 1, 10);
        x.slip(3, 0, 0);
        x.close();
        suspectsAre(x, new int[][] {{2, WHOLE}});
        due("DAY 1 balances", x.suspects(1), -1);
        due("DAY 2", x.suspects(2), 1);
        due("its LINE", x.suspect(0, 0), 6);
    }

    // Term III: "whole: a debit of D"
    static void wholeIsADebitOfD() {
        // of 50, 49, 51 and 50 the first credit is left out: D is 50, debits are lines 1, 2, 4 and 6
        CityBank x = dayOf(new long[][] {{50, 0, 0}, {49, -1, 0}, {51, -1, 0}, {50, -1, 0}});
        suspectsAre(x, new int[][] {{1, WHOLE}, {6, WHOLE}});
    }

    // Term III: "half: D is even, a debit of D / 2"
    static void halfIsADebitOfHalfAnEvenD() {
        // 50 is written twice as a debit: D is 100; 49 and 51 are not half of it, and a credit of 50 is none
        CityBank x = dayOf(new long[][] {{50, 1, 0}, {49, -1, 0}, {51, -1, 0}, {50, -1, 0}});
        suspectsAre(x, new int[][] {{1, HALF}, {2, HALF}, {7, HALF}});
    }

    // Term III, the same sentence: of an odd D there is no half
    static void thereIsNoHalfOfAnOddD() {
        CityBank odd = dayOf(new long[][] {{101, 0, 0}, {50, -1, 0}, {51, -1, 0}});
        suspectsAre(odd, new int[][] {{1, WHOLE}});
        CityBank even = dayOf(new long[][] {{102, 0, 0}, {50, -1, 0}, {51, -1, 0}});
        suspectsAre(even, new int[][] {{1, WHOLE}, {4, HALF}});
        CityBank one = dayOf(new long[][] {{1, 0, 0}});
        suspectsAre(one, new int[][] {{1, WHOLE}});
        CityBank two = dayOf(new long[][] {{2, 0, 0}, {1, -1, 0}});
        suspectsAre(two, new int[][] {{1, WHOLE}, {2, HALF}});
    }

    // Term III: "nines: D is a multiple of 9, a credit that is D more with some two digits side by side ... exchanged"
    static void ninesIsACreditThatIsDMoreExchanged() {
        // 10 is written as 1: D is 9; 1, 12 and 23 are 9 more exchanged (10, 21, 32), 13 is not
        CityBank x = dayOf(new long[][] {{10, 2, 0}, {12, -1, 0}, {13, -1, 0}, {23, -1, 0}});
        suspectsAre(x, new int[][] {{2, NINES}, {4, NINES}, {8, NINES}});
        // nor are 21 (12), 13 (31) and 20 (2)
        CityBank y = dayOf(new long[][] {{10, 2, 0}, {21, -1, 0}, {13, -1, 0}, {20, -1, 0}});
        suspectsAre(y, new int[][] {{2, NINES}});
    }

    // Term III, the same sentence: D may be below 0
    static void ninesOfADBelow0() {
        // 2 is written as 20: D is -18; 20 exchanged is 2, 31 exchanged is 13; 13 and 18 are not 18 less
        CityBank x = dayOf(new long[][] {{2, 2, 0}, {31, -1, 0}, {13, -1, 0}, {18, -1, 0}, {9, -1, 0}});
        suspectsAre(x, new int[][] {{2, NINES}, {4, NINES}});
    }

    // Term III, the same sentence: "D is a multiple of 9"
    static void thereAreNoNinesOfAnotherD() {
        // D is 9, 10 and 8 by what is left out; a credit of 12 is 9 more exchanged, not 10 or 8
        suspectsAre(dayOf(new long[][] {{9, 0, 0}, {12, -1, 0}}), new int[][] {{1, WHOLE}, {3, NINES}});
        suspectsAre(dayOf(new long[][] {{10, 0, 0}, {12, -1, 0}}), new int[][] {{1, WHOLE}});
        suspectsAre(dayOf(new long[][] {{8, 0, 0}, {12, -1, 0}}), new int[][] {{1, WHOLE}});
    }

    // Term III, the same sentence: "(places 0 and 1 .. 8 and 9)", the inside
    static void ninesAreFoundAtPlaces0To9() {
        long unit = 1;
        for (int place = 0; place <= 8; place++) {
            ninesAt(unit, place);
            ninesAt(unit * 10, place);
            unit *= 10;
        }
    }

    private static void ninesAt(long sum, int place) {
        CityBank x = richBank(2);
        today(x, 0, 1, sum);
        x.slip(0, 2, place);
        due("close", x.close(), 1);
        due("suspects of " + sum + " at " + place, x.suspects(0), 1);
        due("LINE", x.suspect(0, 0), 3);
        due("how", x.suspect(0, 1), NINES);
    }

    // Term III, the same sentence: places 9 and 10 are beyond
    static void ninesAreNotFoundAtPlaces9And10() {
        CityBank x = richBank(2);
        for (int order = 0; order < 89; order++) {
            due("order", today(x, order % 2, 1 - order % 2, GREATEST_SUM), order);
            due("slip", x.slip(order, 0, 0), 0);
        }
        due("order", today(x, 0, 1, 100000000L), 89);
        due("slip", x.slip(89, 0, 0), 0);
        due("order", today(x, 1, 0, 900000000L), 90);
        due("slip", x.slip(90, 2, 8), 0);
        due("close", x.close(), 91);
        due("the one credit", x.lineSum(x.count(6) - 1), 9000000000L);
        // D is 81000000000: the credit is that more only if its digits at places 9 and 10 were exchanged
        due("suspects", x.suspects(0), 0);
    }

    // Term III: "SUSPECTS, by LINES, of each the first of these that it is"
    static void suspectsAreByLines() {
        // D is 18 by what is left out: whole, half and nines, each as its line comes, each line once
        CityBank x = dayOf(new long[][] {{13, -1, 0}, {9, -1, 0}, {18, 0, 0}, {18, -1, 0}, {24, -1, 0}});
        suspectsAre(x, new int[][] {{2, NINES}, {3, HALF}, {5, WHOLE}, {6, WHOLE}, {9, NINES}});
    }
}
