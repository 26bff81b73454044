/** The boundary sentences of promises 1 to 9 and 17 (terms, kinds, accounts, coins and receipts), a test for each. */
public final class CityBankBoundsCoins extends Bounds {
    // as told, and each another one than at first
    private static final int[] OTHER_TERMS = {2000, 10, 90, 6, 20, 7, 38, 50};

    private CityBankBoundsCoins() {
    }

    public static void main(String[] args) {
        runAll(CityBankBoundsCoins.class);
    }

    // ---- promise 1: a new object

    // Promise 1: "No KINDS, ACCOUNTS"
    static void aNewObjectHasNoKindsAndAccounts() {
        CityBank x = new CityBank();
        due("KINDS", x.count(1), 0);
        due("KIND 0", x.vault(0, 0), -1);
        due("ACCOUNTS", x.count(2), 0);
        due("ACCOUNT 0", x.accountOf(0, 0), -2);
        for (int what : new int[] {3, 4, 5, 6, 7, 9}) {
            due("nor anything else, " + what, x.count(what), 0);
        }
        for (int what = 0; what <= 4; what++) {
            due("nor any sum, " + what, x.sum(what), 0);
        }
    }

    // Promise 1: "DAY 0"
    static void aNewObjectIsOnDay0() {
        CityBank x = new CityBank();
        due("DAY", x.count(0), 0);
        due("suspects of DAY 0", x.suspects(0), -2);
        due("gap of DAY 0", x.gap(0, 0), 0);
        due("gap of DAY 1", x.gap(0, 1), -1);
    }

    // Promise 1: "SLOTS have nothing."
    static void aNewObjectsSlotsHaveNothing() {
        CityBank x = new CityBank();
        due("SLOTS that have a row", x.count(10), 0);
        for (int slot = 0; slot <= 3; slot++) {
            due("write", x.write(slot, 0, 1), -5);
            due("tear", x.tear(slot), false);
        }
    }

    // ---- promise 2: terms

    /** Answers that each of the TERMS has a part in. */
    private static String actsOf(CityBank x) {
        StringBuilder acts = new StringBuilder();
        bring(x, 0, 50000);
        acts.append(x.book(0)).append(' ').append(x.receipt(0, 4)).append(' ').append(x.prolong(0)).append(' ');
        x.order(0, 1, 60000, 5, 0);
        // one day on which AGIO is pulled below LOW, then days on which it goes up to TOP
        for (int day = 0; day < 12; day++) {
            x.close();
            acts.append(x.balance(0)).append(' ').append(x.count(8)).append(' ');
            acts.append(x.sum(3)).append(' ').append(x.sum(4)).append(' ');
            x.order(day % 2, 1 - day % 2, 900, 5, day % 2);
        }
        return acts.toString();
    }

    // Promise 2: "The TERMS are these: 0."
    static void eachOfTheTermsIsTaken() {
        String first = actsOf(bank(2));
        for (int which = 0; which < 8; which++) {
            CityBank x = bank(2);
            due("terms", termsOf(x, firstTermsBut(which, OTHER_TERMS[which])), 0);
            due("number " + which + " of them acts", actsOf(x).equals(first), false);
        }
    }

    /** One of the TERMS is as told just within its ends; beyond them none of all eight is taken. */
    private static void refusedBeyond(int which, int least, int greatest) {
        for (int value : new int[] {least, greatest}) {
            due("terms, number " + which + " being " + value, termsOf(bank(2), firstTermsBut(which, value)), 0);
        }
        for (int value : new int[] {least - 1, greatest + 1, MIN, MAX}) {
            CityBank x = bank(2);
            int[] other = OTHER_TERMS.clone();
            other[which] = value;
            refused(x, "terms, number " + which + " being " + value, () -> termsOf(x, other), -2);
            same("what the TERMS do behind it", actsOf(x), actsOf(bank(2)));
        }
    }

    // Promise 2: "-2: one is not as told in I.", of RATE
    static void termsRefusesARate() {
        refusedBeyond(0, 1, 100000);
    }

    // Promise 2, the same sentence, of FEE
    static void termsRefusesAFee() {
        refusedBeyond(1, 0, 100);
    }

    // Promise 2, the same sentence, of LAPSE
    static void termsRefusesALapse() {
        refusedBeyond(2, 1, 1000);
    }

    // Promise 2, the same sentence, of FINE
    static void termsRefusesAFine() {
        refusedBeyond(3, 0, 100);
    }

    // Promise 2, the same sentence, of PULL
    static void termsRefusesAPull() {
        refusedBeyond(4, 0, 1000);
    }

    // Promise 2, the same sentence, of STEP
    static void termsRefusesAStep() {
        refusedBeyond(5, 0, 100);
    }

    // Promise 2, the same sentence, of LOW (not above TOP, which is 60 and 50 here)
    static void termsRefusesALow() {
        refusedBeyond(6, -100, 60);
    }

    // Promise 2, the same sentence, of TOP (not below LOW, which is 30 and 38 here)
    static void termsRefusesATop() {
        refusedBeyond(7, 30, 300);
    }

    // ---- promise 3: kind

    // Promise 3: "A KIND of coin more: its number."
    static void kindAnswersItsNumber() {
        CityBank x = new CityBank();
        for (int kind = 0; kind < 6; kind++) {
            due("KIND " + kind + " is none yet", x.vault(kind, 0), -1);
            due("kind", x.kind(10, 1, 1000), kind);
            due("KIND " + kind, x.vault(kind, 0), 0);
        }
    }

    // Promise 3: "-2: something is not as told"
    static void kindRefusesWhatIsNotAsTold() {
        CityBank x = new CityBank();
        int[][] wrong = {{0, 1, 1}, {-1, -1, 1}, {100001, 1, 1}, {MIN, 1, 1}, {MAX, 1, 1}, {10, 0, 1}, {10, 11, 1},
            {10, MIN, 1}, {10, MAX, 1}, {10, 1, 0}, {10, 1, 1001}, {10, 1, MIN}, {10, 1, MAX}};
        for (int[] w : wrong) {
            refused(x, "kind " + w[0] + " " + w[1] + " " + w[2], () -> x.kind(w[0], w[1], w[2]), -2);
        }
        int[][] right = {{1, 1, 1}, {100000, 1, 1}, {100000, 100000, 1000}, {10, 10, 1}};
        for (int kind = 0; kind < right.length; kind++) {
            due("kind", x.kind(right[kind][0], right[kind][1], right[kind][2]), kind);
        }
    }

    // Promise 3: "-3: there are 6."
    static void kindRefusesASeventh() {
        CityBank x = new CityBank();
        for (int kind = 0; kind < 5; kind++) {
            x.kind(10, 1, 1000);
        }
        due("the sixth", x.kind(10, 1, 1000), 5);
        refused(x, "the seventh", () -> x.kind(10, 1, 1000), -3);
        refused(x, "the seventh, not as told", () -> x.kind(10, 11, 1000), -2);
    }

    // ---- promise 4: account

    // Promise 4: "An ACCOUNT more: its number."
    static void accountAnswersItsNumber() {
        CityBank x = new CityBank();
        for (int account = 0; account < 24; account++) {
            due("ACCOUNT " + account + " is none yet", x.accountOf(account, 1), -2);
            due("account", x.account(), account);
            due("ACCOUNT " + account, x.accountOf(account, 1), 0);
        }
    }

    // Promise 4: "-3: there are 24."
    static void accountRefusesA25th() {
        CityBank x = bank(23);
        due("the 24th", x.account(), 23);
        refused(x, "the 25th", () -> x.account(), -3);
    }

    // ---- promise 5: attorney

    // Promise 5: "(a person 0 .. 99)"
    static void anAttorneyIsAPerson0To99() {
        CityBank x = bank(1);
        for (int person : new int[] {-1, 100, MIN, MAX}) {
            refused(x, "attorney " + person, () -> x.attorney(0, person, 5), -2);
        }
        for (int person : new int[] {0, 99}) {
            due("attorney " + person, x.attorney(0, person, 5), 0);
            due("who it is", x.accountOf(0, 2), person);
        }
    }

    // Promise 5: "up to a DAY (with it; 0 .. 5000)"
    static void anAttorneysDayIs0To5000() {
        CityBank x = bank(1);
        for (int day : new int[] {-1, 5001, MIN, MAX}) {
            refused(x, "attorney up to " + day, () -> x.attorney(0, 7, day), -2);
        }
        for (int day : new int[] {0, 5000}) {
            due("attorney up to " + day, x.attorney(0, 7, day), 0);
            due("his last DAY", x.accountOf(0, 3), day);
        }
    }

    // Promise 5, the same sentence: "with it"; a DAY that is past may be told too
    static void anAttorneySignsOnHisLastDayToo() {
        int[][] lastDays = {{1, 2}, {2, 1}, {3, 1}};
        for (int[] last : lastDays) {
            CityBank x = bank(2);
            bring(x, 0, 100);
            pass(x, 2);
            due("attorney", x.attorney(0, 50, last[0]), 0);
            due("order", x.order(0, 1, 5, 5, 50), 0);
            x.close();
            due("signed on DAY 2, the last being " + last[0], x.orderOf(0, 4), last[1]);
        }
    }

    // Promise 5: "in place of another one"
    static void anAttorneyIsInPlaceOfAnother() {
        CityBank x = bank(2);
        bring(x, 0, 100);
        x.attorney(0, 50, 9);
        due("attorney", x.attorney(0, 51, 0), 0);
        x.order(0, 1, 5, 5, 50);
        x.order(0, 1, 5, 5, 51);
        x.order(0, 1, 5, 5, 0);
        due("close", x.close(), 2);
        due("the other one", x.orderOf(0, 4), 2);
        due("who it is", x.orderOf(1, 4), 1);
        due("the HOLDER all the same", x.orderOf(2, 4), 1);
        due("his last DAY", x.accountOf(0, 3), 0);
    }

    // Promise 5: "-2: something is not as told.", of the ACCOUNT
    static void anAttorneyIsOfAnAccount() {
        CityBank x = bank(2);
        for (int account : new int[] {-1, 2, MIN, MAX}) {
            refused(x, "attorney of " + account, () -> x.attorney(account, 7, 5), -2);
        }
        due("attorney of 0", x.attorney(0, 7, 5), 0);
        due("attorney of 1", x.attorney(1, 8, 6), 0);
        due("of 0", x.accountOf(0, 2), 7);
        due("of 1", x.accountOf(1, 2), 8);
    }

    // ---- promise 6: take

    // Promise 6: "how many are taken (those not below the KIND's LEAST, nor above FULL), the others go back"
    static void takeTakesCoinsFromLeastToFull() {
        CityBank x = new CityBank();
        x.account();
        x.kind(100, 90, 1000);
        long[][] coins = {{89, 0}, {90, 1}, {91, 1}, {99, 1}, {100, 1}, {101, 0}, {0, 0}, {-90, 0}, {(1L << 32) + 95, 0}};
        for (long[] c : coins) {
            fill(x, 0, 3, c[0]);
            long before = x.vault(0, 1);
            due("take of " + c[0], x.take(0, 0, 0), c[1]);
            due("weight that came", x.vault(0, 1) - before, c[1] * c[0]);
        }
        fill(x, 0, 3, 89, 90, 100, 101);
        due("take of all these", x.take(0, 0, 0), 2);
    }

    // Promise 6, the same sentence: rows of 1 and of 60 coins
    static void takeTakesUpTo60Coins() {
        CityBank x = bank(1);
        x.row(0, 2, 60);
        x.write(0, 0, 1);
        due("take of the first", x.take(0, 0, 0), 1);
        x.write(0, 59, 2);
        due("take of the first and the last", x.take(0, 0, 0), 2);
        for (int i = 0; i < 60; i++) {
            x.write(0, i, 100000);
        }
        due("take of 60", x.take(0, 0, 0), 60);
        due("their weight", x.receipt(2, 3), 6000000);
        due("the SLOT keeps its row", x.weighed(0, 0, 2), 60);
    }

    // Promise 6: "a RECEIPT, if some are taken"
    static void takeGivesNoReceiptForNoCoins() {
        CityBank x = bank(1);
        fill(x, 0, 3, 0, 100001, -1);
        refused(x, "take of none of these", () -> x.take(0, 0, 0), 0);
        fill(x, 0, 3);
        refused(x, "take of an empty row", () -> x.take(0, 0, 0), 0);
        due("RECEIPTS", x.count(5), 0);
        fill(x, 0, 3, 0, 1);
        due("take of one", x.take(0, 0, 0), 1);
        due("RECEIPTS", x.count(5), 1);
        due("its coins", x.receipt(0, 2), 1);
    }

    // Promise 6, the same sentence: also if the coins are worth 0
    static void takeGivesAReceiptForCoinsOfNoWorth() {
        CityBank x = new CityBank();
        x.account();
        x.kind(100, 1, 1);
        fill(x, 0, 3, 1);
        due("take", x.take(0, 0, 0), 1);
        due("RECEIPTS", x.count(5), 1);
        due("BOOK", x.book(0), 0);
        due("coins", x.vault(0, 0), 1);
        due("BALANCE", x.balance(0), 0);
    }

    // Promise 6: "-2: there is no such ACCOUNT"
    static void takeRefusesAnAccount() {
        CityBank x = bank(2);
        fill(x, 0, 3, 5);
        for (int account : new int[] {-1, 2, MIN, MAX}) {
            refused(x, "take of " + account, () -> x.take(account, 0, 0), -2);
        }
        due("take of 0", x.take(0, 0, 0), 1);
        due("take of 1", x.take(1, 0, 0), 1);
    }

    // Promise 6, the same sentence: no such KIND
    static void takeRefusesAKind() {
        CityBank x = bank(1);
        x.kind(10, 1, 1000);
        fill(x, 0, 3, 5);
        for (int kind : new int[] {-1, 2, MIN, MAX}) {
            refused(x, "take of " + kind, () -> x.take(0, kind, 0), -2);
        }
        due("take of 0", x.take(0, 0, 0), 1);
        due("take of 1", x.take(0, 1, 0), 1);
    }

    // Promise 6, the same sentence: no such SLOT
    static void takeRefusesASlot() {
        CityBank x = bank(1);
        fill(x, 0, 3, 5);
        fill(x, 3, 3, 5);
        for (int slot : new int[] {-1, 4, MIN, MAX}) {
            refused(x, "take of " + slot, () -> x.take(0, 0, slot), -2);
        }
        due("take of 0", x.take(0, 0, 0), 1);
        due("take of 3", x.take(0, 0, 3), 1);
    }

    // Promise 6: "-5: the SLOT has nothing"
    static void takeRefusesASlotOfNothing() {
        CityBank x = bank(1);
        refused(x, "take", () -> x.take(0, 0, 0), -5);
        x.row(0, 3, 0);
        due("take of an empty row", x.take(0, 0, 0), 0);
        x.tear(0);
        refused(x, "take of a torn one", () -> x.take(0, 0, 0), -5);
        refused(x, "-2 is told ahead", () -> x.take(1, 0, 0), -2);
    }

    // Promise 6: "-3 (asked ahead of the coins): there are 200 RECEIPTS"
    static void takeRefusesA201stReceipt() {
        CityBank x = bank(1);
        fill(x, 0, 3, 5);
        fill(x, 1, 3, 0);
        for (int receipt = 0; receipt < 199; receipt++) {
            x.take(0, 0, 0);
        }
        due("no coins for RECEIPT 199", x.take(0, 0, 1), 0);
        due("RECEIPT 199", x.take(0, 0, 0), 1);
        refused(x, "RECEIPT 200", () -> x.take(0, 0, 0), -3);
        refused(x, "asked ahead of the coins", () -> x.take(0, 0, 1), -3);
        refused(x, "a SLOT of nothing is told ahead", () -> x.take(0, 0, 2), -5);
        due("redeem", x.redeem(0), 5);
        refused(x, "RECEIPTS that are GONE count too", () -> x.take(0, 0, 0), -3);
    }

    // Promise 6, the same sentence: "or no ROOM"
    static void takeRefusesWithoutRoom() {
        CityBank x = bankOfLines(1999);
        fill(x, 1, 3, 0);
        due("ROOM of 1, no coins", x.take(0, 0, 1), 0);
        due("ROOM of 1", x.take(0, 0, 3), 1);
        refused(x, "ROOM of 0", () -> x.take(0, 0, 3), -3);
        refused(x, "asked ahead of the coins", () -> x.take(0, 0, 1), -3);
    }

    // ---- promise 7: redeem

    // Promise 7: "-2: there is none such that is not GONE"
    static void redeemRefusesAReceipt() {
        CityBank x = bank(1);
        bring(x, 0, 100);
        bring(x, 0, 150);
        for (int receipt : new int[] {-1, 2, MIN, MAX}) {
            refused(x, "redeem of " + receipt, () -> x.redeem(receipt), -2);
        }
        due("redeem of 0", x.redeem(0), 100);
        due("redeem of 1", x.redeem(1), 150);
        refused(x, "redeem of what is GONE", () -> x.redeem(0), -2);
        refused(x, "redeem of what is GONE", () -> x.redeem(1), -2);
    }

    // Promise 7: "-7: its BALANCE is less"
    static void redeemRefusesALesserBalance() {
        CityBank x = bank(2);
        bring(x, 0, 1000);
        due("give", x.give(0, 1), 0);
        bring(x, 1, 1004);
        refused(x, "redeem for 1005 of 1004", () -> x.redeem(0), -7);
        bring(x, 1, 1);
        due("redeem for 1005 of 1005", x.redeem(0), 1005);
        due("BALANCE", x.balance(1), 0);
        due("BALANCE of who brought it", x.balance(0), 1000);
    }

    // Promise 7: "-3: no ROOM"
    static void redeemRefusesWithoutRoom() {
        CityBank x = bankOfLines(1999);
        due("ROOM of 1", x.redeem(0), 1001);
        CityBank y = bankOfLines(2000);
        refused(y, "ROOM of 0", () -> y.redeem(0), -3);
    }

    // Promise 7: "-8: there are less coins of the KIND in the VAULT"
    static void redeemRefusesLessCoins() {
        CityBank x = bank(1);
        x.terms(1000, 0, 180, 3, 10, 5, 30, 60);
        // behind the loan two coins are there: enough weight for RECEIPT 0, but less coins
        bring(x, 0, 10, 10, 10);
        bring(x, 0, 90, 90);
        bring(x, 0, 5, 5);
        due("loan: 220 * 5 / 7", x.loan(0, 5, 0), 0);
        due("coins", x.vault(0, 0), 2);
        due("weight", x.vault(0, 1), 63);
        refused(x, "redeem of 3 coins of 2", () -> x.redeem(0), -8);
        due("redeem of 2 coins of 2", x.redeem(2), 10);
        due("coins", x.vault(0, 0), 0);
        refused(x, "redeem of coins of none", () -> x.redeem(0), -8);
    }

    // Promise 7, the same sentence: "or less of their weight"
    static void redeemRefusesLessWeight() {
        CityBank x = bank(1);
        x.terms(1000, 0, 180, 3, 10, 5, 30, 60);
        bring(x, 0, 51);
        bring(x, 0, 52);
        bring(x, 0, 1, 1, 1);
        due("loan: 106 * 3 / 5", x.loan(0, 3, 0), 0);
        due("weight", x.vault(0, 1), 43);
        bring(x, 0, 8);
        due("weight", x.vault(0, 1), 51);
        refused(x, "redeem of a weight of 52 of 51", () -> x.redeem(1), -8);
        due("redeem of a weight of 51 of 51", x.redeem(0), 51);
        due("coins", x.vault(0, 0), 2);
        due("weight", x.vault(0, 1), 0);
    }

    // Promise 7, the same sentence: it is told behind -7
    static void redeemTellsTheBalanceAheadOfTheVault() {
        CityBank x = bank(2);
        bring(x, 0, 1000);
        due("loan", x.loan(0, 1, 0), 0);
        refused(x, "BALANCE and VAULT are less", () -> x.redeem(0), -7);
        x.terms(1000, 0, 180, 3, 10, 5, 30, 60);
        refused(x, "the VAULT is less", () -> x.redeem(0), -8);
    }

    // Promise 7: "-7 ...; -3 ...", in this order
    static void redeemTellsTheBalanceAheadOfTheRoom() {
        CityBank x = bankOfLines(2000);
        due("give", x.give(0, 1), 0);
        refused(x, "BALANCE is less, no ROOM", () -> x.redeem(0), -7);
        due("give back", x.give(0, 0), 0);
        refused(x, "no ROOM", () -> x.redeem(0), -3);
    }

    // Promise 7: "-3: no ROOM; -8: ...", in this order
    static void redeemTellsTheRoomAheadOfTheVault() {
        CityBank x = bankOfLines(2000);
        due("loan of all coins", x.loan(0, 2, 0), 0);
        refused(x, "no ROOM, no coins", () -> x.redeem(0), -3);
        CityBank y = bankOfLines(1999);
        due("loan of all coins", y.loan(0, 2, 0), 0);
        refused(y, "no coins", () -> y.redeem(0), -8);
    }

    // ---- promise 8: prolong

    // Promise 8: "A RECEIPT is due LAPSE DAYS later"
    static void prolongMakesItDueLater() {
        CityBank x = bank(1);
        bring(x, 0, 1000);
        x.terms(1000, 5, 1, 3, 10, 5, 30, 60);
        due("prolong", x.prolong(0), 5);
        due("due by LAPSE 1", x.receipt(0, 4), 181);
        x.terms(1000, 5, 1000, 3, 10, 5, 30, 60);
        for (int i = 1; i <= 5; i++) {
            due("prolong", x.prolong(0), 5);
            due("due by LAPSE 1000, also behind DAY 5000", x.receipt(0, 4), 181 + 1000 * i);
        }
    }

    // Promise 8: "and the ACCOUNT that has it pays the FEE: how much."
    static void prolongIsPaidByWhoHasIt() {
        CityBank x = bank(2);
        bring(x, 0, 1000);
        bring(x, 1, 1000);
        x.give(0, 1);
        due("prolong", x.prolong(0), 5);
        due("BALANCE of who has it", x.balance(1), 995);
        due("BALANCE of who brought it", x.balance(0), 1000);
        bring(x, 0, 199);
        bring(x, 0, 200);
        due("FEE of 199 is 0", x.prolong(2), 0);
        due("FEE of 200 is 1", x.prolong(3), 1);
    }

    // Promise 8: "-2 ... likewise."
    static void prolongRefusesAReceipt() {
        CityBank x = bank(1);
        bring(x, 0, 100);
        bring(x, 0, 150);
        for (int receipt : new int[] {-1, 2, MIN, MAX}) {
            refused(x, "prolong of " + receipt, () -> x.prolong(receipt), -2);
        }
        due("prolong of 0", x.prolong(0), 0);
        due("prolong of 1", x.prolong(1), 0);
        x.redeem(0);
        refused(x, "prolong of what is GONE", () -> x.prolong(0), -2);
    }

    // Promise 8: "-7 ... likewise."
    static void prolongRefusesALesserBalance() {
        CityBank x = bank(2);
        bring(x, 0, 1000);
        x.give(0, 1);
        refused(x, "FEE of 5 of 0", () -> x.prolong(0), -7);
        bring(x, 1, 4);
        refused(x, "FEE of 5 of 4", () -> x.prolong(0), -7);
        bring(x, 1, 1);
        due("FEE of 5 of 5", x.prolong(0), 5);
        due("BALANCE", x.balance(1), 0);
        x.terms(1000, 0, 180, 3, 10, 5, 30, 60);
        due("FEE of 0 of 0", x.prolong(0), 0);
    }

    // Promise 8: "-3 likewise."
    static void prolongRefusesWithoutRoom() {
        CityBank x = bankOfLines(1999);
        due("ROOM of 1", x.prolong(0), 1);
        refused(x, "ROOM of 0", () -> x.prolong(0), -3);
    }

    // Promise 8: "-7, -3 likewise.", in this order
    static void prolongTellsTheBalanceAheadOfTheRoom() {
        CityBank x = bankOfLines(2000);
        due("give", x.give(0, 1), 0);
        refused(x, "BALANCE is less, no ROOM", () -> x.prolong(0), -7);
        due("give back", x.give(0, 0), 0);
        refused(x, "no ROOM", () -> x.prolong(0), -3);
    }

    // ---- promise 9: give

    // Promise 9: "A RECEIPT is another ACCOUNT's: 0."
    static void giveGivesAReceipt() {
        CityBank x = bank(24);
        bring(x, 0, 100);
        for (int account : new int[] {23, 23, 0, 1}) {
            due("give", x.give(0, account), 0);
            due("whose it is", x.receipt(0, 0), account);
        }
        due("BALANCE of who brought it", x.balance(0), 100);
        due("BALANCE of who has it", x.balance(1), 0);
        due("LINES", x.count(6), 1);
    }

    // Promise 9: "-2: there is none such that is not GONE"
    static void giveRefusesAReceipt() {
        CityBank x = bank(2);
        bring(x, 0, 100);
        bring(x, 0, 150);
        for (int receipt : new int[] {-1, 2, MIN, MAX}) {
            refused(x, "give of " + receipt, () -> x.give(receipt, 1), -2);
        }
        due("give of 1", x.give(1, 1), 0);
        x.redeem(0);
        refused(x, "give of what is GONE", () -> x.give(0, 1), -2);
    }

    // Promise 9: "no such ACCOUNT."
    static void giveRefusesAnAccount() {
        CityBank x = bank(2);
        bring(x, 0, 100);
        for (int account : new int[] {-1, 2, MIN, MAX}) {
            refused(x, "give to " + account, () -> x.give(0, account), -2);
        }
        due("give to 1", x.give(0, 1), 0);
        due("give to 0", x.give(0, 0), 0);
    }

    // ---- promise 17: weighed

    /** A bank of a KIND of 90 .. 100, with a row of these weights in slot 0. */
    private static CityBank scales(long... weights) {
        CityBank x = new CityBank();
        x.kind(100, 90, 900);
        fill(x, 0, 3, weights);
        return x;
    }

    // Promise 17: "The least and the greatest weight (what 0, 1) of the coins in the SLOT's row that a KIND takes"
    static void weighedAnswersTheLeastAndTheGreatest() {
        CityBank x = scales(89, 100, 95, 90, 101, 0, -95);
        due("least", x.weighed(0, 0, 0), 90);
        due("greatest", x.weighed(0, 0, 1), 100);
        CityBank y = scales(91, 99, 89, 101);
        due("least", y.weighed(0, 0, 0), 91);
        due("greatest", y.weighed(0, 0, 1), 99);
        CityBank z = scales(95);
        due("least of one", z.weighed(0, 0, 0), 95);
        due("greatest of one", z.weighed(0, 0, 1), 95);
    }

    // Promise 17, the same sentence: of the coins in this row, not of others that were weighed ahead of it
    static void weighedAnswersOfThisRowAlone() {
        CityBank x = scales(90, 100);
        fill(x, 1, 3, 94, 96);
        due("least", x.weighed(0, 0, 0), 90);
        due("least of the other row", x.weighed(0, 1, 0), 94);
        due("greatest", x.weighed(0, 0, 1), 100);
        due("greatest of the other row", x.weighed(0, 1, 1), 96);
    }

    // Promise 17: "2 how many it takes, 3 their weight together, 4 the BOOK of that."
    static void weighedAnswersWhatATakeWouldDo() {
        CityBank x = scales(89, 90, 100, 101);
        due("how many", x.weighed(0, 0, 2), 2);
        due("weight", x.weighed(0, 0, 3), 190);
        due("BOOK", x.weighed(0, 0, 4), 171);
        CityBank y = scales(91, 91);
        due("BOOK of 182, not twice that of 91", y.weighed(0, 0, 4), 163);
        refused(y, "weighed does nothing", () -> y.weighed(0, 0, 2), 2);
    }

    // Promise 17: "-2: there is no such KIND, SLOT, what"
    static void weighedRefusesWhatThereIsNot() {
        CityBank x = scales(95);
        fill(x, 3, 3, 95);
        for (int bad : new int[] {-1, 1, MIN, MAX}) {
            refused(x, "KIND " + bad, () -> x.weighed(bad, 0, 2), -2);
        }
        for (int bad : new int[] {-1, 4, MIN, MAX}) {
            refused(x, "SLOT " + bad, () -> x.weighed(0, bad, 2), -2);
        }
        for (int bad : new int[] {-1, 5, MIN, MAX}) {
            refused(x, "what " + bad, () -> x.weighed(0, 0, bad), -2);
        }
        due("SLOT 3", x.weighed(0, 3, 2), 1);
        due("what 0", x.weighed(0, 0, 0), 95);
        due("what 4", x.weighed(0, 0, 4), 85);
    }

    // Promise 17: "-5: the SLOT has nothing"
    static void weighedRefusesASlotOfNothing() {
        CityBank x = scales(95);
        for (int what = 0; what <= 4; what++) {
            due("SLOT 1, what " + what, x.weighed(0, 1, what), -5);
        }
        due("-2 is told ahead", x.weighed(0, 1, 5), -2);
        x.tear(0);
        due("a torn one", x.weighed(0, 0, 2), -5);
    }

    // Promise 17: "-8: it takes none (of 0, 1)."
    static void weighedRefusesTheLeastOfNone() {
        long[] none = {-8, -8, 0, 0, 0};
        CityBank x = scales(89, 101);
        CityBank empty = scales();
        CityBank one = scales(89, 90);
        for (int what = 0; what <= 4; what++) {
            due("of none that it takes, what " + what, x.weighed(0, 0, what), none[what]);
            due("of an empty row, what " + what, empty.weighed(0, 0, what), none[what]);
        }
        due("of one, what 0", one.weighed(0, 0, 0), 90);
        due("of one, what 1", one.weighed(0, 0, 1), 90);
    }
}
