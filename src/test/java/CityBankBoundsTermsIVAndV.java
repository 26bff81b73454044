/** The boundary sentences of Terms IV (vault and loans) and V (closing), a test for each. */
public final class CityBankBoundsTermsIVAndV extends Bounds {
    private CityBankBoundsTermsIVAndV() {
    }

    public static void main(String[] args) {
        runAll(CityBankBoundsTermsIVAndV.class);
    }

    // ---- the vault and loans

    // Term IV: "LOANS, 20 at most, from 0 on"
    static void loansAre20AtMost() {
        CityBank x = bank(1);
        bring(x, 0, 1, 1, 1, 1, 1, 1, 1, 1, 1, 1, 1, 1, 1, 1, 1, 1, 1, 1, 1, 1, 1);
        for (int loan = 0; loan < 20; loan++) {
            due("loan", x.loan(0, 1, 0), loan);
        }
        refused(x, "loan 20", () -> x.loan(0, 1, 0), -3);
        due("LOANS", x.count(9), 20);
        due("coins", x.vault(0, 0), 1);
    }

    private static void loanOf(int n, long weightOut, long... coins) {
        CityBank x = bank(1);
        bring(x, 0, coins);
        long weight = x.vault(0, 1);
        due("loan", x.loan(0, n, 1), 0);
        due("coins left", x.vault(0, 0), coins.length - n);
        due("weight out", weight - x.vault(0, 1), weightOut);
        due("its BOOK", x.gap(0, 0), weightOut);
    }

    // Term IV: "the KIND's weight times n / coins (cut; as they are then) goes out with the n coins", the cut
    static void theWeightOfALoanIsCut() {
        loanOf(1, 1, 1, 2);
        loanOf(1, 2, 2, 2);
        loanOf(2, 3, 1, 1, 3);
        loanOf(2, 4, 1, 2, 3);
        loanOf(3, 6, 1, 2, 3);
        loanOf(1, 50, 1, 100);
        loanOf(2, 101, 1, 100);
    }

    // Term IV, the same sentence: "as they are then"
    static void theWeightOfALoanIsByTheVaultAsItIs() {
        CityBank x = bank(1);
        bring(x, 0, 1, 100);
        due("loan: 101 * 1 / 2", x.loan(0, 1, 1), 0);
        due("weight left", x.vault(0, 1), 51);
        bring(x, 0, 10);
        due("loan: 61 * 1 / 2", x.loan(0, 1, 2), 1);
        due("weight left", x.vault(0, 1), 31);
        due("loan of the last coin", x.loan(0, 1, 4), 2);
        due("weight left", x.vault(0, 1), 0);
        due("BOOK of LOAN 0", x.gap(0, 0), 50);
        due("BOOK of LOAN 1", x.gap(1, 0), 30);
        due("BOOK of LOAN 2", x.gap(2, 0), 31);
    }

    // Term IV, the same sentence: of the most that the VAULT can have nothing wraps around
    static void theWeightOfALoanDoesNotWrap() {
        CityBank x = richBank(1);
        for (int i = 2; i < 200; i++) {
            due("take", x.take(0, 0, 3), 60);
        }
        due("loan of all but one of 12000 coins", x.loan(0, 11999, 1), 0);
        due("weight left", x.vault(0, 1), 100000);
        due("its BOOK", x.gap(0, 0), 119990000000L);
    }

    // Term IV, the same sentence: coins of which no weight is left can be lent too
    static void loanOfCoinsWithoutWeight() {
        CityBank x = bank(1);
        x.terms(1000, 0, 180, 3, 10, 5, 30, 60);
        bring(x, 0, 51);
        bring(x, 0, 1, 1, 1);
        due("loan: 54 * 2 / 4", x.loan(0, 2, 0), 0);
        bring(x, 0, 24);
        due("weight", x.vault(0, 1), 51);
        due("redeem of all that weight", x.redeem(0), 51);
        due("coins", x.vault(0, 0), 2);
        due("weight", x.vault(0, 1), 0);
        due("loan", x.loan(0, 2, 1), 1);
        due("coins", x.vault(0, 0), 0);
        due("gap", x.gap(0, 0), 0);
    }

    // Term IV: "its BOOK (by RATE then)"
    static void theBookOfALoanIsByRateThen() {
        CityBank x = bank(1);
        bring(x, 0, 3, 3, 3);
        due("loan", x.loan(0, 1, 1), 0);
        x.terms(1500, 5, 180, 3, 10, 5, 30, 60);
        due("loan: 3 * 1500 / 1000", x.loan(0, 1, 2), 1);
        x.terms(1000, 5, 180, 3, 10, 5, 30, 60);
        due("by the first RATE", x.gap(0, 0), 3);
        due("by the second, cut", x.gap(1, 0), 4);
    }

    // Term IV: "who knows, and since which DAY"
    static void aLoanIsKnownSinceADay() {
        CityBank x = bank(1);
        bring(x, 0, 100, 100);
        pass(x, 2);
        due("loan on DAY 2", x.loan(0, 1, 1), 0);
        pass(x, 2);
        due("told on DAY 4", x.tell(0, 1), true);
        x.close();
        int[][] gaps = {{0, 1, 0}, {0, 2, 100}, {0, 5, 100}, {1, 3, 0}, {1, 4, 100}, {1, 5, 100}, {2, 5, 0}};
        for (int[] g : gaps) {
            due("gap of " + g[0] + " on DAY " + g[1], x.gap(g[0], g[1]), g[2]);
        }
    }

    // ---- closing

    // Term V: "RECEIPTS that are open and due on this DAY or ahead LAPSE."
    static void receiptsDueOnThisDayLapse() {
        CityBank x = bank(1);
        x.terms(1000, 0, 2, 3, 10, 5, 30, 60);
        bring(x, 0, 10);
        x.terms(1000, 0, 3, 3, 10, 5, 30, 60);
        bring(x, 0, 10);
        bring(x, 0, 10);
        due("redeem", x.redeem(2), 10);
        int[][] how = {{0, 0, 1}, {0, 0, 1}, {2, 0, 1}, {2, 2, 1}, {2, 2, 1}};
        for (int day = 0; day < 5; day++) {
            x.close();
            for (int receipt = 0; receipt < 3; receipt++) {
                due("RECEIPT " + receipt + ", DAY " + day + " being closed", x.receipt(receipt, 5), how[day][receipt]);
            }
        }
        due("the coins stay in the VAULT", x.vault(0, 0), 2);
    }

    // Term V, the same sentence: one that is prolonged on the DAY when it is due does not LAPSE
    static void aReceiptProlongedOnItsDayDoesNotLapse() {
        CityBank x = bank(1);
        x.terms(1000, 0, 1, 3, 10, 5, 30, 60);
        bring(x, 0, 10);
        x.close();
        due("prolong", x.prolong(0), 0);
        x.close();
        due("open", x.receipt(0, 5), 0);
        x.close();
        due("LAPSED", x.receipt(0, 5), 2);
    }

    /** Account 0 has 90000 of an earlier day, AGIO is 40, PULL 1000; nothing is cut or held. */
    private static CityBank pulledBank() {
        CityBank x = settledBank(2, 90000);
        due("terms", x.terms(1000, 5, 180, 0, 1000, 100, -100, 300), 0);
        return x;
    }

    // Term V: "B is the sum of ORDERS done ... on this DAY"
    static void bIsOfOrdersDoneOnThisDay() {
        CityBank x = pulledBank();
        today(x, 0, 1, 2);
        today(x, 0, 1, 1);
        today(x, 0, 1, 90000);
        x.order(0, 1, 500, 5, 1);
        x.order(0, 1, 700, 11, 1);
        x.close();
        due("B of 3: 3000 / 1003", x.count(8), 42);
        x.close();
        due("B of 0", x.count(8), 42);
        today(x, 0, 1, 2);
        x.slip(x.count(3) - 1, 0, 0);
        x.close();
        due("B of 2, a slip is nothing to it: 2000 / 1002", x.count(8), 43);
    }

    // Term V, the same sentence: the sums are those of the ORDERS, whatever the clerk wrote
    static void bIsOfWhatWasOrdered() {
        int[][] slips = {{0, 0}, {1, 0}, {2, 0}, {2, 3}, {3, 2}};
        for (int[] slip : slips) {
            CityBank x = settledBank(3, 90000);
            x.terms(1000, 5, 180, 0, 1000, 100, -100, 300);
            today(x, 0, 1, 20);
            due("slip", x.slip(0, slip[0], slip[1]), 0);
            due("close", x.close(), 1);
            due("B of 20 with a slip by " + slip[0] + ": 20000 / 1020", x.count(8), 59);
            due("mend", x.mend(0), true);
            x.close();
            due("B of 0, though it is mended on this DAY", x.count(8), 59);
        }
    }

    // Term V: B and C are of ORDERS done and of coins taken, so nothing else that is done on a DAY moves AGIO
    static void nothingElseMovesAgio() {
        CityBank x = pulledBank();
        x.terms(1000, 100, 180, 0, 1000, 100, -100, 300);
        due("prolong", x.prolong(0), 9000);
        due("give", x.give(0, 1), 0);
        due("give back", x.give(0, 0), 0);
        x.attorney(0, 5, 5000);
        x.bill(0, 1, 500, 1);
        x.close();
        due("FEES, gifts and bills of a later DAY", x.count(8), 40);
        x.close();
        due("the bill is done: 500000 / 1500", x.count(8), 140);
        due("loan", x.loan(0, 1, 1), 0);
        due("tell", x.tell(0, 5), true);
        due("run", x.run(1), 0);
        x.close();
        due("LOANS", x.count(8), 140);
        x.terms(1000, 5, 180, 100, 1000, 100, -100, 300);
        today(x, 0, 1, 90000);
        due("close", x.close(), 0);
        due("a FINE of all that it had", x.sum(2), 9000 + 80500);
        due("FINES", x.count(8), 140);
    }

    // Term V: "on this DAY": one on which AGIO can't move is over too
    static void bAndCAreOfThisDayThoughAgioStood() {
        CityBank x = pulledBank();
        x.terms(1000, 5, 180, 0, 1000, 0, -100, 300);
        today(x, 0, 1, 500);
        bring(x, 0, 9);
        x.close();
        due("by STEP 0", x.count(8), 40);
        x.terms(1000, 5, 180, 0, 1000, 100, -100, 300);
        x.close();
        due("B and C of the next DAY", x.count(8), 40);
    }

    // Term V: "C the BOOK of coins taken, on this DAY"
    static void cIsOfCoinsTakenOnThisDay() {
        CityBank x = pulledBank();
        x.terms(2000, 0, 180, 0, 1000, 100, -100, 300);
        bring(x, 0, 1);
        bring(x, 0, 1);
        due("redeem", x.redeem(2), 2);
        x.close();
        due("C of 4: -4000 / 1004", x.count(8), 37);
        x.close();
        due("C of 0", x.count(8), 37);
        fill(x, 0, 3, 0, 100001);
        due("coins that go back", x.take(0, 0, 0), 0);
        x.close();
        due("C of 0", x.count(8), 37);
    }

    /** AGIO behind a day of 90000's bank on which so much was paid, and coins of so much came. */
    private static void moved(int pull, long b, long c, int want) {
        CityBank x = settledBank(2, 90000);
        due("terms", x.terms(1000, 5, 180, 0, pull, 100, -100, 300), 0);
        if (b > 0) {
            today(x, 0, 1, b);
        }
        if (c > 0) {
            bring(x, 0, c);
        }
        x.close();
        due("AGIO by PULL " + pull + ", B " + b + " and C " + c, x.count(8), want);
    }

    // Term V: "AGIO becomes AGIO and PULL * (B less C) / (B and C and 1000) (cut towards 0"
    static void agioIsCutTowards0() {
        moved(10, 111, 0, 40);
        moved(10, 112, 0, 41);
        moved(10, 0, 111, 40);
        moved(10, 0, 112, 39);
        moved(1000, 1, 0, 40);
        moved(1000, 0, 1, 40);
        moved(1000, 2, 0, 41);
        moved(1000, 0, 2, 39);
        moved(1000, 50, 50, 40);
        moved(1000, 52, 50, 41);
        moved(1000, 50, 52, 39);
        moved(1000, 51, 50, 40);
        moved(0, 50000, 0, 40);
    }

    private static void stepped(int step, long b, long c, int want) {
        CityBank x = pulledBank();
        due("terms", x.terms(1000, 5, 180, 0, 1000, step, -100, 300), 0);
        if (b > 0) {
            today(x, 0, 1, b);
        }
        if (c > 0) {
            bring(x, 0, c);
        }
        x.close();
        due("AGIO by STEP " + step + ", B " + b + " and C " + c, x.count(8), want);
    }

    // Term V: "cut to -STEP .. STEP)"
    static void agioMovesAtMostStep() {
        // 7000 / 1007 is 6, 8000 / 1008 is 7, 9000 / 1009 is 8
        stepped(7, 7, 0, 46);
        stepped(7, 8, 0, 47);
        stepped(7, 9, 0, 47);
        stepped(7, 80000, 0, 47);
        stepped(7, 0, 7, 34);
        stepped(7, 0, 8, 33);
        stepped(7, 0, 9, 33);
        stepped(7, 0, 80000, 33);
        stepped(0, 80000, 0, 40);
        stepped(0, 0, 80000, 40);
    }

    // Term V: "cut to -100 .. 300.", the lower end
    static void agioIsNotBelowMinus100() {
        // from -60: 41000 / 1041 is 39, 42000 / 1042 is 40, 43000 / 1043 is 41
        int[][] ends = {{41, -99}, {42, -100}, {43, -100}, {90000, -100}};
        for (int[] end : ends) {
            CityBank x = pulledBank();
            bring(x, 0, 90000);
            x.close();
            due("AGIO", x.count(8), -60);
            bring(x, 0, end[0]);
            x.close();
            due("AGIO by C " + end[0], x.count(8), end[1]);
            due("bought: LOW is -100 too, and the cut comes ahead", x.sum(4), 0);
        }
    }

    // Term V, the same sentence, the upper end
    static void agioIsNotAbove300() {
        // from 240: 63000 / 1063 is 59, 64000 / 1064 is 60, 65000 / 1065 is 61
        int[][] ends = {{63, 299}, {64, 300}, {65, 300}, {9000, 300}};
        for (int[] end : ends) {
            CityBank x = pulledBank();
            today(x, 0, 1, 9000);
            x.close();
            today(x, 0, 1, 9000);
            x.close();
            due("AGIO", x.count(8), 240);
            today(x, 0, 1, end[0]);
            x.close();
            due("AGIO by B " + end[0], x.count(8), end[1]);
            due("sold: TOP is 300 too, and the cut comes ahead", x.sum(3), 0);
        }
    }

    /** AGIO, and what the house sold and bought, behind a day on which so much was paid and came. */
    private static void held(int low, int top, long b, long c, int[] want) {
        CityBank x = pulledBank();
        due("terms", x.terms(1000, 5, 180, 0, 1000, 100, low, top), 0);
        if (b > 0) {
            today(x, 0, 1, b);
        }
        if (c > 0) {
            bring(x, 0, c);
        }
        x.close();
        String day = low + " .. " + top + ", B " + b + " and C " + c;
        due("AGIO of " + day, x.count(8), want[0]);
        due("sold of " + day, x.sum(3), want[1]);
        due("bought of " + day, x.sum(4), want[2]);
    }

    // Term V: "If it is above TOP then, it is TOP, and the HOUSE sold what it was more"
    static void aboveTopTheHouseSells() {
        // 5000 / 1005 is 4, 6000 / 1006 is 5, 7000 / 1007 is 6
        held(30, 45, 5, 0, new int[] {44, 0, 0});
        held(30, 45, 6, 0, new int[] {45, 0, 0});
        held(30, 45, 7, 0, new int[] {45, 1, 0});
        held(30, 45, 80000, 0, new int[] {45, 95, 0});
        held(-100, -100, 0, 0, new int[] {-100, 140, 0});
    }

    // Term V: "if below LOW, LOW, and it bought what it was less."
    static void belowLowTheHouseBuys() {
        held(35, 60, 0, 5, new int[] {36, 0, 0});
        held(35, 60, 0, 6, new int[] {35, 0, 0});
        held(35, 60, 0, 7, new int[] {35, 0, 1});
        held(35, 60, 0, 80000, new int[] {35, 0, 95});
        held(300, 300, 0, 0, new int[] {300, 0, 260});
    }

    // Term V: "The DAY is one more."
    static void theDayIsOneMore() {
        CityBank x = new CityBank();
        for (int day = 0; day < 3; day++) {
            due("DAY", x.count(0), day);
            due("close", x.close(), 0);
        }
        due("DAY", x.count(0), 3);
    }

    // Term V: "A FEE, a FINE is paid by an ACCOUNT to nobody (its BALANCE is less)."
    static void feesAndFinesArePaidToNobody() {
        CityBank x = bank(2);
        bring(x, 0, 1000);
        due("prolong", x.prolong(0), 5);
        due("all BALANCES", x.sum(0), 995);
        today(x, 0, 1, 1000);
        due("close", x.close(), 0);
        due("all BALANCES", x.sum(0), 965);
        due("BALANCE", x.balance(0), 965);
        due("BALANCE of who is not paid", x.balance(1), 0);
        due("FEES and FINES", x.sum(2), 35);
        due("the VAULT is as it was", x.sum(1), 1000);
    }
}
