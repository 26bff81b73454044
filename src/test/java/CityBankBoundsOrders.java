/** The boundary sentences of promises 10 to 16 (orders, bills, slips, closing, suspects, mending), a test for each. */
public final class CityBankBoundsOrders extends Bounds {
    private CityBankBoundsOrders() {
    }

    public static void main(String[] args) {
        runAll(CityBankBoundsOrders.class);
    }

    // ---- promise 10: order

    // Promise 10: "An ORDER waits, of this DAY if the hour (0 .. 23) is below 11, else of the next one"
    static void anOrderIsOfThisDayBelowHour11() {
        CityBank x = bank(2);
        pass(x, 3);
        int[][] days = {{0, 3}, {10, 3}, {11, 4}, {12, 4}, {23, 4}};
        for (int i = 0; i < days.length; i++) {
            due("order", x.order(0, 1, 5, days[i][0], 0), i);
            due("DAY of hour " + days[i][0], x.orderOf(i, 2), days[i][1]);
            due("it waits", x.orderOf(i, 4), 0);
            due("ORDERS that wait", x.count(4), i + 1);
        }
    }

    // Promise 10: "signed by a person (0 .. 99)", and "person not as told"
    static void aSignerIsAPerson0To99() {
        CityBank x = bank(2);
        for (int signer : new int[] {-1, 100, MIN, MAX}) {
            refused(x, "signer " + signer, () -> x.order(0, 1, 5, 5, signer), -2);
        }
        due("signer 0", x.order(0, 1, 5, 5, 0), 0);
        due("signer 99", x.order(0, 1, 5, 5, 99), 1);
    }

    // Promise 10: "-2: there are no such ACCOUNTS", of who pays
    static void orderRefusesWhoPays() {
        CityBank x = bank(3);
        for (int from : new int[] {-1, 3, MIN, MAX}) {
            refused(x, "order from " + from, () -> x.order(from, 1, 5, 5, 0), -2);
        }
        due("order from 0", x.order(0, 1, 5, 5, 0), 0);
        due("order from 2", x.order(2, 1, 5, 5, 0), 1);
    }

    // Promise 10, the same sentence, of who is paid
    static void orderRefusesWhoIsPaid() {
        CityBank x = bank(3);
        for (int to : new int[] {-1, 3, MIN, MAX}) {
            refused(x, "order to " + to, () -> x.order(1, to, 5, 5, 0), -2);
        }
        due("order to 0", x.order(1, 0, 5, 5, 0), 0);
        due("order to 2", x.order(1, 2, 5, 5, 0), 1);
    }

    // Promise 10: "both are one"
    static void orderRefusesOneAccountForBoth() {
        CityBank x = bank(3);
        for (int account = 0; account < 3; account++) {
            int both = account;
            refused(x, "order from and to " + both, () -> x.order(both, both, 5, 5, 0), -2);
        }
        due("order from 0 to 1", x.order(0, 1, 5, 5, 0), 0);
        due("order from 1 to 0", x.order(1, 0, 5, 5, 0), 1);
    }

    // Promise 10: "sum is not 1 .. 1000000000"
    static void orderRefusesASum() {
        CityBank x = richBank(2);
        for (long sum : new long[] {0, -1, GREATEST_SUM + 1, (1L << 32) + 1, Long.MIN_VALUE, Long.MAX_VALUE}) {
            refused(x, "order of " + sum, () -> x.order(0, 1, sum, 5, 0), -2);
        }
        due("order of 1", x.order(0, 1, 1, 5, 0), 0);
        due("order of the greatest", x.order(0, 1, GREATEST_SUM, 5, 0), 1);
        due("close", x.close(), 2);
        due("BALANCE", x.balance(1), GREATEST_SUM + 1);
    }

    // Promise 10: "hour ... not as told"
    static void orderRefusesAnHour() {
        CityBank x = bank(2);
        for (int hour : new int[] {-1, 24, MIN, MAX}) {
            refused(x, "hour " + hour, () -> x.order(0, 1, 5, hour, 0), -2);
        }
        due("hour 0", x.order(0, 1, 5, 0, 0), 0);
        due("hour 23", x.order(0, 1, 5, 23, 0), 1);
    }

    // Promise 10: "-3: there are 300"
    static void orderRefusesA301st() {
        CityBank x = bank(2);
        for (int order = 0; order < 299; order++) {
            today(x, 0, 1, 5);
        }
        due("the 300th", today(x, 0, 1, 5), 299);
        refused(x, "the 301st", () -> today(x, 0, 1, 5), -3);
        refused(x, "the 301st, not as told", () -> today(x, 0, 0, 5), -2);
    }

    // Promise 10: "or no ROOM."
    static void orderRefusesWithoutRoom() {
        CityBank x = bankOfLines(1997);
        due("ROOM of 3", today(x, 0, 1, 5), 0);
        refused(x, "ROOM of 0", () -> today(x, 0, 1, 5), -3);
        CityBank y = bankOfLines(1998);
        refused(y, "ROOM of 2", () -> today(y, 0, 1, 5), -3);
    }

    // ---- promise 11: bill

    // Promise 11: "so many DAYS on (0 .. 1000)"
    static void aBillIsPaid0To1000DaysOn() {
        CityBank x = bank(2);
        pass(x, 2);
        for (int days : new int[] {-1, 1001, MIN, MAX}) {
            refused(x, "bill of " + days, () -> x.bill(0, 1, 5, days), -2);
        }
        int[] days = {0, 1, 1000};
        for (int i = 0; i < 3; i++) {
            due("bill", x.bill(0, 1, 5, days[i]), i);
            due("DAY of a bill of " + days[i], x.orderOf(i, 2), 2 + days[i]);
        }
    }

    // Promise 11, the same sentence: it is paid on that DAY, not ahead of it
    static void aBillIsPaidOnItsDay() {
        CityBank x = bank(2);
        bring(x, 0, 100);
        due("bill", x.bill(0, 1, 40, 2), 0);
        due("close of DAY 0", x.close(), 0);
        due("close of DAY 1", x.close(), 0);
        due("BALANCE", x.balance(1), 0);
        due("close of DAY 2", x.close(), 1);
        due("BALANCE", x.balance(1), 40);
        due("close of DAY 3", x.close(), 0);
    }

    // Promise 11: "at hour 9"
    static void aBillIsOfHour9() {
        CityBank x = bank(3);
        bring(x, 0, 10);
        due("order of hour 10", x.order(0, 1, 10, 10, 0), 0);
        due("bill", x.bill(0, 2, 10, 0), 1);
        due("its hour", x.orderOf(1, 3), 9);
        due("close", x.close(), 1);
        due("the bill comes ahead of hour 10", x.balance(2), 10);
        bring(x, 0, 10);
        due("bill", x.bill(0, 2, 10, 0), 2);
        due("order of hour 8", x.order(0, 1, 10, 8, 0), 3);
        due("close", x.close(), 1);
        due("but behind hour 8", x.balance(1), 10);
    }

    // Promise 11: "signed by its HOLDER"
    static void aBillIsSignedByTheHolder() {
        CityBank x = bank(24);
        x.attorney(23, 7, 0);
        bring(x, 23, 10);
        due("bill", x.bill(23, 0, 10, 5), 0);
        pass(x, 6);
        due("done, whoever is ATTORNEY", x.orderOf(0, 4), 1);
    }

    // Promise 11: "-2 ... as order()."
    static void billRefusesWhatIsNotAsTold() {
        CityBank x = bank(3);
        long[][] wrong = {{-1, 1, 5}, {3, 1, 5}, {MIN, 1, 5}, {MAX, 1, 5}, {0, -1, 5}, {0, 3, 5}, {0, MIN, 5}, {0, MAX, 5},
            {0, 0, 5}, {2, 2, 5}, {0, 1, 0}, {0, 1, -1}, {0, 1, GREATEST_SUM + 1},
            {0, 1, Long.MIN_VALUE}, {0, 1, Long.MAX_VALUE}};
        for (long[] w : wrong) {
            refused(x, "bill " + w[0] + " " + w[1] + " " + w[2], () -> x.bill((int) w[0], (int) w[1], w[2], 5), -2);
        }
        due("bill of 1", x.bill(0, 2, 1, 5), 0);
        due("bill of the greatest", x.bill(2, 0, GREATEST_SUM, 5), 1);
    }

    // Promise 11: "-3 as order()."
    static void billRefusesA301st() {
        CityBank x = bank(2);
        for (int order = 0; order < 299; order++) {
            x.bill(0, 1, 5, 0);
        }
        due("the 300th", x.bill(0, 1, 5, 0), 299);
        refused(x, "the 301st", () -> x.bill(0, 1, 5, 0), -3);
        CityBank y = bankOfLines(1997);
        due("ROOM of 3", y.bill(0, 1, 5, 0), 0);
        refused(y, "ROOM of 0", () -> y.bill(0, 1, 5, 0), -3);
    }

    // Promise 11: "-2, -3 as order().", in this order
    static void billTellsWhatIsNotAsToldAheadOf300() {
        CityBank x = bank(2);
        for (int order = 0; order < 300; order++) {
            x.bill(0, 1, 5, 0);
        }
        refused(x, "bill of 1001 DAYS", () -> x.bill(0, 1, 5, 1001), -2);
        refused(x, "bill of -1 DAYS", () -> x.bill(0, 1, 5, -1), -2);
        refused(x, "bill on oneself", () -> x.bill(0, 0, 5, 0), -2);
        refused(x, "bill of nothing", () -> x.bill(0, 1, 0, 0), -2);
        refused(x, "bill as told", () -> x.bill(0, 1, 5, 1000), -3);
    }

    // Promise 11: "an ORDER of that DAY", though it be behind DAY 5000
    static void aBillMayBeOfADayBehindTheLast() {
        CityBank x = bank(2);
        pass(x, 4999);
        due("bill", x.bill(0, 1, 5, 1000), 0);
        due("its DAY", x.orderOf(0, 2), 5999);
        pass(x, 1);
        due("it waits", x.orderOf(0, 4), 0);
    }

    // Promise 10: "of this DAY if the hour ... is below 11, else of the next one", on a late DAY too
    static void anOrderOfALateDay() {
        CityBank x = bank(2);
        pass(x, 490);
        due("order of hour 10", x.order(0, 1, 5, 10, 0), 0);
        due("order of hour 11", x.order(0, 1, 5, 11, 0), 1);
        due("DAY of hour 10", x.orderOf(0, 2), 490);
        due("DAY of hour 11", x.orderOf(1, 2), 491);
        x.close();
        due("hour 10 is REFUSED", x.orderOf(0, 4), 3);
        due("hour 11 waits", x.orderOf(1, 4), 0);
    }

    // ---- promise 12: slip

    /** A bank of accounts 0 to 4 whose order 0, of 123 from 1 to 2, waits. */
    private static CityBank bankOfAnOrder() {
        CityBank x = bank(5);
        bring(x, 1, 1000);
        due("order", today(x, 1, 2, 123), 0);
        return x;
    }

    // Promise 12: "how 0 .. 3"
    static void slipIsHow0To3() {
        CityBank x = bankOfAnOrder();
        for (int how : new int[] {-1, 4, MIN, MAX}) {
            refused(x, "slip by " + how, () -> x.slip(0, how, 0), -2);
        }
        for (int how = 0; how <= 3; how++) {
            due("slip by " + how, x.slip(0, how, 0), 0);
            due("it is told", x.orderOf(0, 5), how);
        }
    }

    // Promise 12: "with x (of 2 0 .. 8 ...)"
    static void slip2HasPlaces0To8() {
        CityBank x = bankOfAnOrder();
        for (int place : new int[] {-1, 9, MIN, MAX}) {
            refused(x, "slip at " + place, () -> x.slip(0, 2, place), -2);
        }
        for (int place = 0; place <= 8; place++) {
            due("slip at " + place, x.slip(0, 2, place), 0);
        }
    }

    // Promise 12: "of 3 an ACCOUNT that is none of both"
    static void slip3HasAnAccountThatIsNoneOfBoth() {
        CityBank x = bankOfAnOrder();
        for (int account : new int[] {-1, 5, MIN, MAX, 1, 2}) {
            refused(x, "slip to " + account, () -> x.slip(0, 3, account), -2);
        }
        for (int account : new int[] {0, 3, 4}) {
            due("slip to " + account, x.slip(0, 3, account), 0);
        }
    }

    // Promise 12: "else 0)"
    static void slips0And1HaveNothingBut0() {
        CityBank x = bankOfAnOrder();
        for (int how = 0; how <= 1; how++) {
            int told = how;
            for (int bad : new int[] {-1, 1, MIN, MAX}) {
                refused(x, "slip by " + told + " with " + bad, () -> x.slip(0, told, bad), -2);
            }
            due("slip by " + told + " with 0", x.slip(0, told, 0), 0);
        }
    }

    // Promise 12: "in place of what was told"
    static void aSlipIsInPlaceOfAnother() {
        CityBank x = bankOfAnOrder();
        due("slip", x.slip(0, 0, 0), 0);
        due("slip", x.slip(0, 3, 4), 0);
        due("slip", x.slip(0, 2, 1), 0);
        refused(x, "slip not as told", () -> x.slip(0, 2, 9), -2);
        due("close", x.close(), 1);
        due("the latest that was as told: 213", x.lineSum(2), 213);
        due("ACCOUNT", x.line(2, 1), 2);
        due("side", x.line(2, 3), 1);
    }

    // Promise 12: "an ORDER that waits", and "-2: something is not as told."
    static void slipRefusesAnOrder() {
        CityBank x = bankOfAnOrder();
        today(x, 1, 2, 5000);
        x.order(1, 2, 5, 5, 0);
        due("order for the next DAY", x.order(1, 2, 5, 11, 1), 3);
        for (int order : new int[] {-1, 4, MIN, MAX}) {
            refused(x, "slip of " + order, () -> x.slip(order, 0, 0), -2);
        }
        due("close", x.close(), 1);
        for (int order = 0; order < 3; order++) {
            int carriedOut = order;
            refused(x, "slip of one that waits no more, " + order, () -> x.slip(carriedOut, 0, 0), -2);
        }
        due("slip of one that waits", x.slip(3, 0, 0), 0);
    }

    // Promise 28: "5 its slip (NONE)", also of an ORDER that was REFUSED, or done, or put right
    static void aSlipStaysTold() {
        CityBank x = bankOfAnOrder();
        due("order above the BALANCE", today(x, 1, 2, 5000), 1);
        due("order of a wrong signer", x.order(1, 2, 5, 5, 0), 2);
        int[] hows = {1, 2, 3};
        for (int order = 0; order < 3; order++) {
            due("slip", x.slip(order, hows[order], 0), 0);
        }
        due("close", x.close(), 1);
        due("mend", x.mend(0), true);
        int[] states = {1, 3, 2};
        for (int order = 0; order < 3; order++) {
            due("how ORDER " + order + " is", x.orderOf(order, 4), states[order]);
            due("slip of ORDER " + order, x.orderOf(order, 5), hows[order]);
            due("put right, ORDER " + order, x.orderOf(order, 6), order == 0 ? 1 : 0);
        }
    }

    // ---- promise 13: close

    // Promise 13: "how many ORDERS were done"
    static void closeAnswersHowManyWereDone() {
        CityBank x = bank(2);
        bring(x, 0, 100);
        due("of none", x.close(), 0);
        today(x, 0, 1, 101);
        x.order(0, 1, 5, 5, 1);
        due("of two REFUSED", x.close(), 0);
        today(x, 0, 1, 5);
        due("of one", x.close(), 1);
        today(x, 0, 1, 5);
        x.slip(3, 0, 0);
        today(x, 0, 1, 5);
        today(x, 0, 1, 5000);
        x.order(0, 1, 5, 11, 0);
        due("of three and one that waits", x.close(), 2);
    }

    // Promise 13, the same sentence: of as many as there can be
    static void closeCarriesOut300Orders() {
        CityBank x = bank(2);
        bring(x, 0, 300);
        for (int order = 0; order < 300; order++) {
            x.order(0, 1, 1, order % 11, 0);
        }
        due("close", x.close(), 300);
        due("ORDERS that wait", x.count(4), 0);
        due("LINES", x.count(6), 601);
        due("BALANCE", x.balance(1), 300);
    }

    // Promise 13: "-9: DAY 5000 it is."
    static void closeRefusesDay5000() {
        CityBank x = bank(2);
        bring(x, 0, 100);
        pass(x, 4999);
        today(x, 0, 1, 5);
        due("close of DAY 4999", x.close(), 1);
        today(x, 0, 1, 5);
        refused(x, "close of DAY 5000", () -> x.close(), -9);
        due("the ORDER waits still", x.count(4), 1);
    }

    // ---- promise 14: suspects

    /** A bank on whose DAY 0 two of three equal sums came right, and the last credit was left out. */
    private static CityBank bankOfSuspects() {
        CityBank x = bank(2);
        bring(x, 0, 1000);
        for (int order = 0; order < 3; order++) {
            today(x, 0, 1, 10);
        }
        x.slip(2, 0, 0);
        due("close", x.close(), 3);
        return x;
    }

    // Promise 14: "SUSPECTS of a DAY: how many."
    static void suspectsAnswersHowMany() {
        due("three", bankOfSuspects().suspects(0), 3);
        CityBank x = bank(2);
        bring(x, 0, 1000);
        int[] sums = {40, 50, 70};
        for (int order = 0; order < 3; order++) {
            today(x, 0, 1, sums[order]);
            x.slip(order, 0, 0);
        }
        x.close();
        due("none, though the books do not balance", x.suspects(0), 0);
        due("SUSPECT 0", x.suspect(0, 0), -1);
    }

    // Promise 14, the same sentence: of the LINES of 300 ORDERS
    static void suspectsFindsAllDebits() {
        CityBank x = bank(2);
        bring(x, 0, 1000);
        for (int order = 0; order < 150; order++) {
            x.order(0, 1, 1, 0, 0);
            x.order(1, 0, 1, 1, 1);
        }
        // of 300 sums of 1 one is written twice as a debit: D is 2, each debit is half of it
        x.slip(299, 1, 0);
        due("close", x.close(), 300);
        due("suspects", x.suspects(0), 301);
        due("the first", x.suspect(0, 0), 1);
        due("the last", x.suspect(300, 0), 600);
        due("how", x.suspect(300, 1), 1);
        due("no more", x.suspect(301, 0), -1);
    }

    // Promise 14, the same sentence: more SUSPECTS than there are ORDERS
    static void suspectsFindsMoreThanThereAreOrders() {
        CityBank x = bank(2);
        bring(x, 0, 1000);
        for (int order = 0; order < 300; order++) {
            due("order", today(x, 0, 1, 1), order);
            if (order < 149) {
                x.slip(order, 1, 0);
            } else if (order < 149 + 33) {
                x.slip(order, 2, 0);
            }
        }
        due("close", x.close(), 300);
        // 149 are written twice as a debit, 33 as a credit of 10: D is 298 less 297, and each debit is of 1
        due("suspects", x.suspects(0), 449);
        for (int i = 0; i < 449; i++) {
            due("LINE of SUSPECT " + i, x.suspect(i, 0), i < 298 ? 1 + i : 299 + 2 * (i - 298));
            due("how of SUSPECT " + i, x.suspect(i, 1), 0);
        }
        due("no more", x.suspect(449, 0), -1);
    }

    // Promise 14: "NONE: its books balance"
    static void suspectsAnswersNoneIfTheBooksBalance() {
        CityBank x = bankOfSuspects();
        x.close();
        due("a DAY of nothing", x.suspects(1), -1);
        due("mend", x.mend(2), true);
        due("DAY 0, put right", x.suspects(0), -1);
    }

    // Promise 14: "-2: there is no such DAY that was closed."
    static void suspectsRefusesADayThatWasNotClosed() {
        CityBank x = bankOfSuspects();
        due("suspects", x.suspects(0), 3);
        for (int day : new int[] {-1, 1, 2, MIN, MAX}) {
            refused(x, "suspects of " + day, () -> x.suspects(day), -2);
        }
        x.close();
        due("DAY 1, closed", x.suspects(1), -1);
        due("DAY 2, not closed", x.suspects(2), -2);
    }

    // ---- promise 15: suspect

    // Promise 15: "what 0 its LINE, 1 how it could be (0 whole, 1 half, 2 nines)", and "NONE if there is none such."
    static void suspectAnswersNoneBeyondItsEnds() {
        CityBank x = bankOfSuspects();
        due("suspects", x.suspects(0), 3);
        int[] lines = {1, 3, 5};
        for (int i = 0; i < 3; i++) {
            due("LINE of SUSPECT " + i, x.suspect(i, 0), lines[i]);
            due("how of SUSPECT " + i, x.suspect(i, 1), 0);
            for (int what : new int[] {-1, 2, MIN, MAX}) {
                due("what " + what, x.suspect(i, what), -1);
            }
        }
        for (int i : new int[] {-1, 3, MIN, MAX}) {
            due("SUSPECT " + i, x.suspect(i, 0), -1);
            due("SUSPECT " + i, x.suspect(i, 1), -1);
        }
    }

    // Promise 15: "of the latest suspects()"
    static void suspectIsOfTheLatestSuspects() {
        CityBank x = bankOfSuspects();
        due("ahead of any", x.suspect(0, 0), -1);
        today(x, 0, 1, 7);
        x.slip(3, 0, 0);
        x.close();
        due("suspects of DAY 0", x.suspects(0), 3);
        due("suspects of DAY 1", x.suspects(1), 1);
        due("SUSPECT 0", x.suspect(0, 0), 6);
        due("SUSPECT 1", x.suspect(1, 0), -1);
        due("mend", x.mend(3), true);
        due("as it was found", x.suspect(0, 0), 6);
        due("suspects of DAY 1, put right", x.suspects(1), -1);
        due("SUSPECT 0", x.suspect(0, 0), -1);
    }

    // Promise 15, the same sentence: whatever else is called, until there is a later one
    static void suspectStaysWhateverElseIsCalled() {
        CityBank x = bankOfSuspects();
        due("suspects", x.suspects(0), 3);
        bring(x, 0, 10);
        today(x, 0, 1, 10);
        x.close();
        due("mend", x.mend(2), true);
        due("LINE of SUSPECT 0", x.suspect(0, 0), 1);
        due("LINE of SUSPECT 2", x.suspect(2, 0), 5);
        due("how of SUSPECT 2", x.suspect(2, 1), 0);
        due("no more", x.suspect(3, 0), -1);
    }

    // ---- promise 16: mend

    // Promise 16: "its ACCOUNT, side and sum are what they should be, its FOLIO stays"
    static void mendPutsALineRight() {
        int[][] slips = {{1, 0}, {2, 0}, {2, 2}, {3, 0}, {3, 4}};
        for (int[] slip : slips) {
            CityBank x = bankOfAnOrder();
            x.slip(0, slip[0], slip[1]);
            due("close", x.close(), 1);
            int folio = x.line(2, 2);
            due("mend", x.mend(0), true);
            due("ACCOUNT", x.line(2, 1), 2);
            due("side", x.line(2, 3), 1);
            due("sum", x.lineSum(2), 123);
            due("FOLIO", x.line(2, 2), folio);
            due("LINES", x.count(6), 3);
            due("written", x.written(2), 123);
            due("BALANCE", x.balance(2), 123);
        }
    }

    // Promise 16: "its FOLIO stays": the FOLIO of the wrong ACCOUNT has the LINE still, and is full as soon
    static void mendLeavesFoliosAsFullAsTheyWere() {
        CityBank x = bankOfAnOrder();
        x.slip(0, 3, 4);
        due("close", x.close(), 1);
        due("mend", x.mend(0), true);
        due("FOLIOS of who is paid", x.accountOf(2, 1), 0);
        due("FOLIOS of the wrong ACCOUNT", x.accountOf(4, 1), 1);
        for (int line = 2; line <= 9; line++) {
            bring(x, 4, 1);
            due("FOLIOS behind LINE " + line, x.accountOf(4, 1), line <= 8 ? 1 : 2);
        }
        for (int line = 1; line <= 9; line++) {
            bring(x, 2, 1);
            due("FOLIOS of who is paid behind LINE " + line, x.accountOf(2, 1), line <= 8 ? 1 : 2);
        }
    }

    // Promise 16: "a LINE that was left out is put in as the latest, of the DAY on which the ORDER was done"
    static void mendPutsALineIn() {
        CityBank x = bankOfAnOrder();
        x.slip(0, 0, 0);
        due("close", x.close(), 1);
        bring(x, 0, 5);
        x.close();
        due("LINES", x.count(6), 3);
        due("mend", x.mend(0), true);
        due("LINES", x.count(6), 4);
        int[] put = {0, 2, 2, 1, 0};
        for (int what = 0; what <= 4; what++) {
            due("what was put in, " + what, x.line(3, what), put[what]);
        }
        due("its sum", x.lineSum(3), 123);
        due("books of DAY 0", x.suspects(0), -1);
        due("books of DAY 1", x.suspects(1), -1);
    }

    // Promise 16, the same sentence: it needs a FOLIO that is not full
    static void mendBeginsAFolioIfItsOneIsFull() {
        for (int lines = 7; lines <= 8; lines++) {
            CityBank x = bankOfAnOrder();
            x.slip(0, 0, 0);
            due("close", x.close(), 1);
            for (int line = 0; line < lines; line++) {
                bring(x, 2, 1);
            }
            due("mend", x.mend(0), true);
            due("FOLIOS behind " + lines + " LINES", x.accountOf(2, 1), lines == 7 ? 1 : 2);
            due("FOLIO of the LINE", x.line(x.count(6) - 1, 2), x.accountOf(2, 0));
        }
    }

    // Promise 16: "there is no such ORDER"
    static void mendRefusesAnOrder() {
        CityBank x = bankOfAnOrder();
        x.slip(0, 1, 0);
        x.close();
        for (int order : new int[] {-1, 1, MIN, MAX}) {
            refused(x, "mend of " + order, () -> x.mend(order));
        }
        due("mend of 0", x.mend(0), true);
    }

    // Promise 16: "that was done", one that waits or is REFUSED was not
    static void mendRefusesAnOrderThatWasNotDone() {
        CityBank x = bankOfAnOrder();
        due("order above the BALANCE", today(x, 1, 2, 5000), 1);
        due("order of a wrong signer", x.order(1, 2, 5, 5, 0), 2);
        for (int order = 0; order < 3; order++) {
            x.slip(order, 1, 0);
            int waits = order;
            refused(x, "mend of one that waits, " + order, () -> x.mend(waits));
        }
        due("close", x.close(), 1);
        refused(x, "mend of one REFUSED", () -> x.mend(1));
        refused(x, "mend of one REFUSED", () -> x.mend(2));
        due("mend of one done", x.mend(0), true);
    }

    // Promise 16: "with a slip"
    static void mendRefusesAnOrderWithoutASlip() {
        CityBank x = bankOfAnOrder();
        due("order", today(x, 1, 2, 11), 1);
        due("a slip that changes nothing", x.slip(1, 2, 0), 0);
        due("close", x.close(), 2);
        refused(x, "mend of one without a slip", () -> x.mend(0));
        due("mend of one with a slip", x.mend(1), true);
    }

    // Promise 16: "that is not put right"
    static void mendRefusesWhatWasPutRight() {
        for (int how = 0; how <= 3; how++) {
            CityBank x = bankOfAnOrder();
            x.slip(0, how, 0);
            x.close();
            due("not put right", x.orderOf(0, 6), 0);
            due("mend", x.mend(0), true);
            due("put right", x.orderOf(0, 6), 1);
            refused(x, "mend again", () -> x.mend(0));
        }
    }

    // Promise 16: "or no ROOM."
    static void mendRefusesWithoutRoom() {
        CityBank x = bankOfLines(1995);
        today(x, 0, 1, 5);
        x.slip(0, 0, 0);
        due("close", x.close(), 1);
        due("LINES", x.count(6), 1996);
        due("an ORDER that keeps 3 of the ROOM of 4", x.order(0, 1, 5, 11, 0), 1);
        due("ROOM of 1", x.mend(0), true);
        CityBank y = bankOfLines(1996);
        today(y, 0, 1, 5);
        y.slip(0, 0, 0);
        due("close", y.close(), 1);
        due("LINES", y.count(6), 1997);
        due("an ORDER that keeps 3 of the ROOM of 3", y.order(0, 1, 5, 11, 0), 1);
        refused(y, "ROOM of 0", () -> y.mend(0));
    }

    // Promise 16, the same sentence: a LINE that is there needs no ROOM to be put right (Term II: "a call that writes a LINE")
    static void mendOfALineThatIsThereNeedsNoRoom() {
        CityBank x = bankOfLines(1995);
        today(x, 0, 1, 5);
        x.slip(0, 1, 0);
        due("close", x.close(), 1);
        due("an ORDER that keeps all of the ROOM of 3", x.order(0, 1, 5, 11, 0), 1);
        refused(x, "ROOM of 0", () -> x.prolong(0), -3);
        due("mend", x.mend(0), true);
        due("side", x.line(1996, 3), 1);
    }
}
