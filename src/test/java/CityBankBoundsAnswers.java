import java.util.function.IntToLongFunction;

/** The boundary sentences of promises 22 to 33 (calls that tell how things are), a test for each. */
public final class CityBankBoundsAnswers extends Bounds {
    private CityBankBoundsAnswers() {
    }

    public static void main(String[] args) {
        runAll(CityBankBoundsAnswers.class);
    }

    /** One of a call's numbers: just below and just above what there is, and far from it, the answer is one. */
    private static void beyond(CityBank x, String what, int last, long want, IntToLongFunction call) {
        for (int i : new int[] {-1, last + 1, MIN, MAX}) {
            refused(x, what + " " + i, () -> call.applyAsLong(i), want);
        }
    }

    /**
     * Three accounts and two kinds; DAY 1. Account 0 has ATTORNEY 7 up to DAY 9. Lines 0 to 7: coins of 1000 (kind
     * 0, receipt 0) by 0, coins of 54 (kind 1, receipt 1) by 2, a FEE of 5 by 0, order 0's of 100 from 0 to 2
     * (its credit slipped to 1), a FINE of 30 by 0, order 3's of 10 from 0 to 1. Order 1 was above the
     * BALANCE, order 2 had a wrong signer, order 4 waits. Slots 0 and 3 have rows.
     */
    private static CityBank sample() {
        CityBank x = bank(3);
        due("kind", x.kind(100, 1, 900), 1);
        due("attorney", x.attorney(0, 7, 9), 0);
        bring(x, 0, 1000);
        fill(x, 0, 0, 20, 40, 101);
        due("take", x.take(2, 1, 0), 2);
        due("prolong", x.prolong(0), 5);
        due("order 0", x.order(0, 2, 100, 0, 0), 0);
        due("slip", x.slip(0, 3, 1), 0);
        due("order 1", x.order(0, 1, 1000, 1, 7), 1);
        due("order 2", x.order(0, 1, 5, 2, 8), 2);
        due("order 3", x.bill(0, 1, 10, 0), 3);
        due("order 4", x.order(2, 0, 6, 23, 2), 4);
        due("close", x.close(), 2);
        return x;
    }

    // ---- promise 22: accountOf

    // Promise 22: "0 its FOLIO, 1 how many FOLIOS it had, 2 its ATTORNEY (NONE), 3 the last DAY of that one (NONE)."
    static void accountOfAnswersNoneIfThereIsNone() {
        CityBank x = bank(2);
        int[] none = {-1, 0, -1, -1};
        for (int what = 0; what <= 3; what++) {
            due("of a new one, " + what, x.accountOf(1, what), none[what]);
        }
        bring(x, 1, 5);
        x.attorney(1, 0, 0);
        int[] some = {0, 1, 0, 0};
        for (int what = 0; what <= 3; what++) {
            due("of one that has these, " + what, x.accountOf(1, what), some[what]);
            due("of another, " + what, x.accountOf(0, what), none[what]);
        }
    }

    // Promise 22: "-2 for others.", of the ACCOUNT
    static void accountOfRefusesAnAccount() {
        CityBank x = sample();
        for (int what = 0; what <= 3; what++) {
            int asked = what;
            beyond(x, "ACCOUNT", 2, -2, account -> x.accountOf(account, asked));
        }
        due("ACCOUNT 0", x.accountOf(0, 1), 1);
        due("ACCOUNT 2", x.accountOf(2, 1), 1);
    }

    // Promise 22, the same sentence, of what
    static void accountOfRefusesAWhat() {
        CityBank x = sample();
        beyond(x, "what", 3, -2, what -> x.accountOf(0, what));
        due("what 0", x.accountOf(0, 0), 0);
        due("what 3", x.accountOf(0, 3), 9);
    }

    // ---- promise 23: folio

    // Promise 23: "The k-th FOLIO of an ACCOUNT, from 0 on."
    static void folioAnswersTheKth() {
        CityBank x = bank(2);
        due("ahead of the first LINE", x.folio(0, 0), -1);
        for (int i = 0; i < 8; i++) {
            bring(x, 0, 1);
            bring(x, 1, 1);
        }
        due("FOLIO 0 of 0", x.folio(0, 0), 0);
        due("FOLIO 0 of 1", x.folio(1, 0), 1);
        due("FOLIO 1 of 0 is none yet", x.folio(0, 1), -1);
        bring(x, 1, 1);
        bring(x, 0, 1);
        due("FOLIO 1 of 0", x.folio(0, 1), 3);
        due("FOLIO 1 of 1", x.folio(1, 1), 2);
        due("FOLIO 0 of 0 stays", x.folio(0, 0), 0);
    }

    // Promise 23: "NONE if there is none such.", of k
    static void folioIsNoneBeyondItsEnds() {
        CityBank x = bank(2);
        for (int i = 0; i < 9; i++) {
            bring(x, 0, 1);
        }
        beyond(x, "k", 1, -1, k -> x.folio(0, k));
        due("k 0", x.folio(0, 0), 0);
        due("k 1", x.folio(0, 1), 1);
        due("of an ACCOUNT without LINES", x.folio(1, 0), -1);
    }

    // Promise 23, the same sentence, of the ACCOUNT
    static void folioIsNoneOfNoAccount() {
        CityBank x = sample();
        beyond(x, "ACCOUNT", 2, -1, account -> x.folio(account, 0));
        due("ACCOUNT 0", x.folio(0, 0), 0);
        due("ACCOUNT 2", x.folio(2, 0), 1);
    }

    // ---- promises 24 and 25: balance, written

    // Promise 24: "BALANCE of an ACCOUNT; 0 if there is none such."
    static void balanceIs0OfNoAccount() {
        CityBank x = sample();
        beyond(x, "BALANCE of", 2, 0, account -> x.balance(account));
        due("BALANCE of 0", x.balance(0), 1000 - 5 - 100 - 30 - 10);
        due("BALANCE of 1", x.balance(1), 10);
        due("BALANCE of 2", x.balance(2), 54 + 100);
    }

    // Promise 25: "credits less debits; 0 if there is none such."
    static void writtenIs0OfNoAccount() {
        CityBank x = sample();
        beyond(x, "written of", 2, 0, account -> x.written(account));
        due("written of 0", x.written(0), 1000 - 5 - 100 - 30 - 10);
        due("written of 1", x.written(1), 100 + 10);
        due("written of 2", x.written(2), 54);
    }

    // Promise 25: "What an ACCOUNT has by its LINES", it may be below 0
    static void writtenMayBeBelow0() {
        CityBank x = bank(2);
        due("of no LINES", x.written(1), 0);
        bring(x, 0, 100);
        today(x, 0, 1, 7);
        x.slip(0, 1, 0);
        x.close();
        due("of a debit alone", x.written(1), -7);
        due("BALANCE", x.balance(1), 7);
    }

    // ---- promises 26 and 27: line, lineSum

    // Promise 26: "0 its DAY, 1 ACCOUNT, 2 FOLIO, 3 side (0 debit, 1 credit), 4 ORDER (NONE)."
    static void lineAnswersAllOfALine() {
        CityBank x = sample();
        int[][] lines = {{0, 0, 0, 1, -1}, {0, 2, 1, 1, -1}, {0, 0, 0, 0, -1}, {0, 0, 0, 0, 0}, {0, 1, 2, 1, 0},
            {0, 0, 0, 0, -1}, {0, 0, 0, 0, 3}, {0, 1, 2, 1, 3}};
        for (int line = 0; line < lines.length; line++) {
            for (int what = 0; what <= 4; what++) {
                due("LINE " + line + ", what " + what, x.line(line, what), lines[line][what]);
            }
        }
        due("LINES", x.count(6), lines.length);
    }

    // Promise 26: "-2 for others.", of the LINE
    static void lineRefusesALine() {
        CityBank x = sample();
        for (int what = 0; what <= 4; what++) {
            int asked = what;
            beyond(x, "LINE", 7, -2, line -> x.line(line, asked));
        }
        due("of no LINES", new CityBank().line(0, 0), -2);
    }

    // Promise 26, the same sentence, of what
    static void lineRefusesAWhat() {
        CityBank x = sample();
        for (int line = 0; line < 8; line++) {
            int asked = line;
            beyond(x, "what", 4, -2, what -> x.line(asked, what));
        }
    }

    // Promise 27: "The sum of a LINE; 0 if there is none such."
    static void lineSumIs0OfNoLine() {
        CityBank x = sample();
        beyond(x, "LINE", 7, 0, line -> x.lineSum(line));
        long[] sums = {1000, 54, 5, 100, 100, 30, 10, 10};
        for (int line = 0; line < 8; line++) {
            due("sum of LINE " + line, x.lineSum(line), sums[line]);
        }
        due("of no LINES", new CityBank().lineSum(0), 0);
    }

    // Promise 27, the same sentence: a sum that no int holds
    static void lineSumMayBeAboveAnInt() {
        CityBank x = richBank(2);
        today(x, 0, 1, 999999999);
        x.slip(0, 2, 8);
        due("close", x.close(), 1);
        due("sum", x.lineSum(3), 9099999999L);
        due("written", x.written(1), 9099999999L);
    }

    // ---- promise 28: orderOf

    // Promise 28: "0 from, 1 to, 2 its DAY, 3 hour, 4 how it is (0 it waits, ... 5 its slip (NONE), 6 1 if"
    static void orderOfAnswersAllOfAnOrder() {
        CityBank x = sample();
        int[][] orders = {{0, 2, 0, 0, 1, 3, 0}, {0, 1, 0, 1, 3, -1, 0}, {0, 1, 0, 2, 2, -1, 0}, {0, 1, 0, 9, 1, -1, 0},
            {2, 0, 1, 23, 0, -1, 0}};
        for (int order = 0; order < orders.length; order++) {
            for (int what = 0; what <= 6; what++) {
                due("ORDER " + order + ", what " + what, x.orderOf(order, what), orders[order][what]);
            }
        }
        due("mend", x.mend(0), true);
        due("put right", x.orderOf(0, 6), 1);
        due("its slip stays told", x.orderOf(0, 5), 3);
        due("one without a slip", x.orderOf(3, 6), 0);
    }

    // Promise 28: "-2 for others.", of the ORDER
    static void orderOfRefusesAnOrder() {
        CityBank x = sample();
        for (int what = 0; what <= 6; what++) {
            int asked = what;
            beyond(x, "ORDER", 4, -2, order -> x.orderOf(order, asked));
        }
        due("of no ORDERS", new CityBank().orderOf(0, 0), -2);
    }

    // Promise 28, the same sentence, of what
    static void orderOfRefusesAWhat() {
        CityBank x = sample();
        for (int order = 0; order < 5; order++) {
            int asked = order;
            beyond(x, "what", 6, -2, what -> x.orderOf(asked, what));
        }
    }

    // ---- promises 29 and 30: receipt, book

    // Promise 29: "0 its ACCOUNT, 1 KIND, 2 coins, 3 their weight, 4 the DAY when it is due, 5 how it is"
    static void receiptAnswersAllOfAReceipt() {
        CityBank x = sample();
        int[][] receipts = {{0, 0, 1, 1000, 360, 0}, {2, 1, 2, 60, 180, 0}};
        for (int receipt = 0; receipt < receipts.length; receipt++) {
            for (int what = 0; what <= 5; what++) {
                due("RECEIPT " + receipt + ", what " + what, x.receipt(receipt, what), receipts[receipt][what]);
            }
        }
        due("redeem", x.redeem(1), 54);
        due("redeemed", x.receipt(1, 5), 1);
        pass(x, 360);
        due("LAPSED", x.receipt(0, 5), 2);
        due("redeemed stays so", x.receipt(1, 5), 1);
    }

    // Promise 29: "-2 for others.", of the RECEIPT
    static void receiptRefusesAReceipt() {
        CityBank x = sample();
        for (int what = 0; what <= 5; what++) {
            int asked = what;
            beyond(x, "RECEIPT", 1, -2, receipt -> x.receipt(receipt, asked));
        }
        due("of no RECEIPTS", new CityBank().receipt(0, 0), -2);
    }

    // Promise 29, the same sentence, of what
    static void receiptRefusesAWhat() {
        CityBank x = sample();
        for (int receipt = 0; receipt < 2; receipt++) {
            int asked = receipt;
            beyond(x, "what", 5, -2, what -> x.receipt(asked, what));
        }
    }

    // Promise 30: "The BOOK of a RECEIPT; 0 if there is none such."
    static void bookIs0OfNoReceipt() {
        CityBank x = sample();
        beyond(x, "RECEIPT", 1, 0, receipt -> x.book(receipt));
        due("BOOK of 0", x.book(0), 1000);
        due("BOOK of 1", x.book(1), 54);
        due("redeem", x.redeem(1), 54);
        due("BOOK of one that is GONE", x.book(1), 54);
    }

    // ---- promise 31: vault

    // Promise 31: "Of the VAULT, of a KIND: 0 coins, 1 weight, 2 the BOOK of that."
    static void vaultAnswersAllOfAKind() {
        CityBank x = sample();
        long[][] kinds = {{1, 1000, 1000}, {2, 60, 54}};
        for (int kind = 0; kind < 2; kind++) {
            for (int what = 0; what <= 2; what++) {
                due("KIND " + kind + ", what " + what, x.vault(kind, what), kinds[kind][what]);
            }
        }
        due("redeem", x.redeem(1), 54);
        for (int what = 0; what <= 2; what++) {
            due("of a KIND of which there is nothing, " + what, x.vault(1, what), 0);
        }
    }

    // Promise 31: "NONE for others.", of the KIND
    static void vaultIsNoneOfNoKind() {
        CityBank x = sample();
        for (int what = 0; what <= 2; what++) {
            int asked = what;
            beyond(x, "KIND", 1, -1, kind -> x.vault(kind, asked));
        }
        due("of no KINDS", new CityBank().vault(0, 0), -1);
    }

    // Promise 31, the same sentence, of what
    static void vaultIsNoneOfAnotherWhat() {
        CityBank x = sample();
        beyond(x, "what", 2, -1, what -> x.vault(0, what));
        beyond(x, "what", 2, -1, what -> x.vault(1, what));
    }

    // ---- promises 32 and 33: count, sum

    // Promise 32: "0 DAY, 1 KINDS, 2 ACCOUNTS, 3 ORDERS, 4 those that wait, 5 RECEIPTS, 6 LINES, 7 FOLIOS, ..."
    static void countAnswersAllOfTheBank() {
        CityBank x = sample();
        due("loan", x.loan(0, 1, 0), 0);
        // 10 * (110 - 1054) / 2164 is -4
        int[] counts = {1, 2, 3, 5, 1, 2, 8, 3, 36, 1, 2};
        for (int what = 0; what <= 10; what++) {
            due("what " + what, x.count(what), counts[what]);
        }
    }

    // Promise 32: "NONE for others."
    static void countIsNoneOfAnotherWhat() {
        CityBank x = sample();
        beyond(x, "what", 10, -1, what -> x.count(what));
    }

    // Promise 33: "0 BALANCES of all together, 1 the BOOK of all that is in the VAULT, 2 FEES and FINES ..."
    static void sumAnswersAllOfTheBank() {
        CityBank x = sample();
        x.terms(1000, 5, 180, 3, 10, 5, 50, 60);
        x.close();
        x.terms(1000, 5, 180, 3, 10, 5, 30, 45);
        x.close();
        long[] sums = {1054 - 35, 1054, 35, 5, 14};
        for (int what = 0; what <= 4; what++) {
            due("what " + what, x.sum(what), sums[what]);
        }
    }

    // Promise 33, the same sentence: each KIND's BOOK is cut, then they are added
    static void sumOfTheVaultIsOfBooksThatAreCut() {
        CityBank x = new CityBank();
        x.account();
        x.kind(100, 1, 500);
        x.kind(100, 1, 500);
        fill(x, 0, 3, 1);
        x.take(0, 0, 0);
        x.take(0, 1, 0);
        due("two of a half, of two KINDS", x.sum(1), 0);
        x.take(0, 0, 0);
        due("two of a half, of one KIND", x.sum(1), 1);
        due("in the books of each RECEIPT nothing", x.sum(0), 0);
    }

    // Promise 33: "0 for others."
    static void sumIs0OfAnotherWhat() {
        CityBank x = sample();
        x.terms(1000, 5, 180, 3, 10, 5, 50, 60);
        x.close();
        due("bought", x.sum(4), 14);
        beyond(x, "what", 4, 0, what -> x.sum(what));
    }
}
