/** The boundary sentences of Term II (accounts, receipts, lines, folios, room), a test for each. */
public final class CityBankBoundsTermII extends Bounds {
    private CityBankBoundsTermII() {
    }

    public static void main(String[] args) {
        runAll(CityBankBoundsTermII.class);
    }

    // Term II: "ACCOUNTS 0 .., 24 at most"
    static void accountsAre24AtMost() {
        CityBank x = bank(24);
        refused(x, "account 24", () -> x.account(), -3);
        due("ACCOUNTS", x.count(2), 24);
        bring(x, 23, 5);
        due("BALANCE of the last", x.balance(23), 5);
        due("BALANCE of none", x.balance(24), 0);
    }

    // Term II: "each with a BALANCE (0 at first)"
    static void aBalanceIs0AtFirst() {
        CityBank x = bank(24);
        for (int account = 0; account < 24; account++) {
            due("BALANCE of " + account, x.balance(account), 0);
        }
    }

    // Term II: "of which the person of the same number is HOLDER"
    static void thePersonOfTheSameNumberIsHolder() {
        CityBank x = bank(24);
        int[][] signed = {{0, 0, 1}, {0, 1, 2}, {12, 11, 2}, {12, 12, 1}, {12, 13, 2},
            {23, 22, 2}, {23, 23, 1}, {23, 24, 2}};
        for (int[] s : signed) {
            bring(x, s[0], 10);
            int order = x.order(s[0], 1, 5, 5, s[1]);
            x.close();
            due("order of " + s[0] + " signed by " + s[1], x.orderOf(order, 4), s[2]);
        }
    }

    // Term II: "RECEIPTS from 0 on, 200 at most"
    static void receiptsAre200AtMost() {
        CityBank x = bank(1);
        fill(x, 0, 0, 1);
        for (int receipt = 0; receipt < 200; receipt++) {
            due("take", x.take(0, 0, 0), 1);
            due("RECEIPTS", x.count(5), receipt + 1);
        }
        due("RECEIPT 199", x.receipt(199, 2), 1);
        refused(x, "take", () -> x.take(0, 0, 0), -3);
        due("RECEIPT 200", x.receipt(200, 2), -2);
    }

    // Term II: "BOOK (by RATE as they came)"
    static void bookOfAReceiptIsByRateAsItCame() {
        CityBank x = bank(1);
        bring(x, 0, 100);
        x.terms(2000, 0, 180, 3, 10, 5, 30, 60);
        bring(x, 0, 100);
        due("BOOK by the first RATE", x.book(0), 100);
        due("BOOK by the second", x.book(1), 200);
        due("BALANCE", x.balance(0), 300);
        due("redeem by the first", x.redeem(0), 100);
        due("redeem by the second", x.redeem(1), 200);
    }

    // Term II: "the DAY when it is due (that on which it came, and LAPSE)"
    static void aReceiptIsDueLapseBehindItsDay() {
        CityBank x = bank(1);
        x.terms(1000, 5, 4, 3, 10, 5, 30, 60);
        bring(x, 0, 100);
        pass(x, 3);
        bring(x, 0, 100);
        x.terms(1000, 5, 9, 3, 10, 5, 30, 60);
        due("due, of DAY 0", x.receipt(0, 4), 4);
        due("due, of DAY 3", x.receipt(1, 4), 7);
    }

    // Term II: "Coins that are taken go into the VAULT (so many of the KIND, and their weight); the BALANCE is BOOK more."
    static void coinsTakenGoIntoTheVault() {
        CityBank x = bank(2);
        x.kind(100, 90, 900);
        fill(x, 0, 0, 89, 90, 100, 101);
        due("take", x.take(1, 1, 0), 2);
        due("coins", x.vault(1, 0), 2);
        due("weight", x.vault(1, 1), 190);
        due("coins of another KIND", x.vault(0, 0), 0);
        due("weight of another KIND", x.vault(0, 1), 0);
        due("BALANCE", x.balance(1), 171);
        due("BALANCE of another", x.balance(0), 0);
    }

    // Term II: "Redeemed: BOOK and BOOK * FEE / 1000 (cut) are paid"
    static void whatIsPaidForAReceiptIsCut() {
        CityBank x = bank(1);
        bring(x, 0, 1000);
        bring(x, 0, 199);
        bring(x, 0, 200);
        bring(x, 0, 399);
        bring(x, 0, 400);
        due("199 * 5 / 1000 is 0", x.redeem(1), 199);
        due("200 * 5 / 1000 is 1", x.redeem(2), 201);
        due("399 * 5 / 1000 is 1", x.redeem(3), 400);
        due("400 * 5 / 1000 is 2", x.redeem(4), 402);
        due("BALANCE", x.balance(0), 996);
        due("FEES", x.sum(2), 4);
        bring(x, 0, 100000, 99999);
        bring(x, 0, 100000, 100000);
        due("199999 * 5 / 1000 is 999", x.redeem(5), 200998);
        due("FEES", x.sum(2), 1003);
        bring(x, 0, 10000);
        due("200000 * 5 / 1000 is 1000", x.redeem(6), 201000);
        due("FEES", x.sum(2), 2003);
    }

    // Term II: "the coins, and their weight, go out of the VAULT"
    static void coinsRedeemedGoOutOfTheVault() {
        CityBank x = bank(1);
        x.terms(1000, 0, 180, 3, 10, 5, 30, 60);
        bring(x, 0, 10, 20);
        bring(x, 0, 40, 50, 60);
        due("redeem", x.redeem(0), 30);
        due("coins", x.vault(0, 0), 3);
        due("weight", x.vault(0, 1), 150);
        due("redeem to the last", x.redeem(1), 150);
        due("coins", x.vault(0, 0), 0);
        due("weight", x.vault(0, 1), 0);
    }

    // Term II: "It is GONE if it is redeemed or LAPSED.", of one redeemed
    static void aReceiptRedeemedIsGone() {
        CityBank x = bank(2);
        bring(x, 0, 100);
        bring(x, 0, 100);
        due("redeem", x.redeem(0), 100);
        refused(x, "redeem", () -> x.redeem(0), -2);
        refused(x, "prolong", () -> x.prolong(0), -2);
        refused(x, "give", () -> x.give(0, 1), -2);
        due("one that is open", x.redeem(1), 100);
    }

    // Term II, the same sentence, of one LAPSED
    static void aReceiptLapsedIsGone() {
        CityBank x = bank(2);
        x.terms(1000, 0, 1, 3, 10, 5, 30, 60);
        bring(x, 0, 100);
        x.close();
        bring(x, 0, 100);
        x.close();
        refused(x, "redeem", () -> x.redeem(0), -2);
        refused(x, "prolong", () -> x.prolong(0), -2);
        refused(x, "give", () -> x.give(0, 1), -2);
        due("give of one that is open", x.give(1, 0), 0);
        due("prolong of it", x.prolong(1), 0);
        due("redeem of it", x.redeem(1), 100);
    }

    // Term II: "LINES are written for all that changes a BALANCE"
    static void linesAreWrittenForAllThatChangesABalance() {
        CityBank x = bank(2);
        x.terms(1000, 100, 180, 10, 10, 5, 30, 60);
        bring(x, 0, 1000);
        due("LINES by take", x.count(6), 1);
        due("prolong", x.prolong(0), 100);
        due("LINES by prolong", x.count(6), 2);
        bring(x, 0, 100);
        due("redeem", x.redeem(1), 110);
        due("LINES by redeem", x.count(6), 4);
        today(x, 0, 1, 500);
        today(x, 0, 1, 500);
        due("LINES by orders that wait", x.count(6), 4);
        due("close", x.close(), 1);
        due("LINES by one done and by a FINE", x.count(6), 7);
        due("BALANCE", x.balance(0), 1000 - 100 + 100 - 110 - 500 - 50);
        due("written", x.written(0), x.balance(0));
        due("written of the other", x.written(1), 500);
    }

    // Term II: "numbered from 0 on, 2000 at most"
    static void linesAre2000AtMost() {
        CityBank x = bankOfLines(1999);
        due("LINE 1999 is none yet", x.lineSum(1999), 0);
        due("prolong", x.prolong(0), 1);
        due("LINES", x.count(6), 2000);
        due("LINE 1999", x.lineSum(1999), 1);
        refused(x, "prolong", () -> x.prolong(0), -3);
        due("LINE 2000", x.line(2000, 0), -2);
    }

    // Term II: "a FOLIO that has 8 LINES is full"
    static void aFolioOf8LinesIsFull() {
        CityBank x = bank(1);
        for (int line = 0; line < 17; line++) {
            bring(x, 0, 1);
            due("FOLIO of LINE " + line, x.line(line, 2), line / 8);
            due("FOLIO of the ACCOUNT", x.accountOf(0, 0), line / 8);
            due("FOLIOS", x.count(7), line / 8 + 1);
        }
    }

    // Term II: "FOLIOS are numbered from 0 on as they are begun: by the first LINE of an ACCOUNT"
    static void foliosAreNumberedAsTheyAreBegun() {
        CityBank x = bank(4);
        due("FOLIOS", x.count(7), 0);
        due("FOLIO ahead of the first LINE", x.accountOf(3, 0), -1);
        bring(x, 3, 1);
        bring(x, 1, 1);
        bring(x, 3, 1);
        bring(x, 2, 1);
        due("FOLIO of 3", x.accountOf(3, 0), 0);
        due("FOLIO of 1", x.accountOf(1, 0), 1);
        due("FOLIO of 2", x.accountOf(2, 0), 2);
        due("FOLIO of 0", x.accountOf(0, 0), -1);
        due("FOLIOS", x.count(7), 3);
    }

    // Term II, the same sentence: "and by each for which its FOLIO is full"
    static void aFolioIsBegunAsItsOneIsFull() {
        CityBank x = bank(2);
        for (int i = 0; i < 8; i++) {
            bring(x, 0, 1);
        }
        bring(x, 1, 1);
        due("FOLIOS of 0, one being full", x.accountOf(0, 1), 1);
        due("FOLIO of 1", x.accountOf(1, 0), 1);
        bring(x, 0, 1);
        due("FOLIOS of 0", x.accountOf(0, 1), 2);
        due("FOLIO of 0", x.accountOf(0, 0), 2);
        bring(x, 1, 1);
        due("FOLIO of 1 as it was", x.accountOf(1, 0), 1);
    }

    // Term II: "ROOM: 2000 less LINES", "a call that writes a LINE at once needs 1", of take()
    static void takeNeedsARoomOf1() {
        CityBank x = bankOfLines(1999);
        due("ROOM of 1", x.take(0, 0, 3), 1);
        due("LINES", x.count(6), 2000);
        refused(x, "ROOM of 0", () -> x.take(0, 0, 3), -3);
    }

    // Term II, the same sentence, of redeem()
    static void redeemNeedsARoomOf1() {
        CityBank x = bankOfLines(1999);
        due("ROOM of 1", x.redeem(0), 1001);
        due("LINES", x.count(6), 2000);
        CityBank y = bankOfLines(2000);
        refused(y, "ROOM of 0", () -> y.redeem(0), -3);
    }

    // Term II, the same sentence, of prolong()
    static void prolongNeedsARoomOf1() {
        CityBank x = bankOfLines(1999);
        due("ROOM of 1", x.prolong(0), 1);
        due("LINES", x.count(6), 2000);
        refused(x, "ROOM of 0", () -> x.prolong(0), -3);
    }

    // Term II, the same sentence, of mend()
    static void mendOfALeftOutLineNeedsARoomOf1() {
        CityBank x = bankOfLines(1993);
        today(x, 0, 1, 10);
        x.slip(0, 0, 0);
        today(x, 0, 1, 10);
        x.slip(1, 0, 0);
        due("close", x.close(), 2);
        for (int line = 1995; line < 1999; line++) {
            due("prolong", x.prolong(0), 1);
        }
        due("LINES", x.count(6), 1999);
        due("ROOM of 1", x.mend(0), true);
        due("LINES", x.count(6), 2000);
        refused(x, "ROOM of 0", () -> x.mend(1));
    }

    // Term II: "one by which an ORDER waits 3", of order()
    static void orderNeedsARoomOf3() {
        CityBank x = bankOfLines(1997);
        due("ROOM of 3", today(x, 0, 1, 10), 0);
        CityBank y = bankOfLines(1998);
        refused(y, "ROOM of 2", () -> today(y, 0, 1, 10), -3);
    }

    // Term II, the same sentence, of bill()
    static void billNeedsARoomOf3() {
        CityBank x = bankOfLines(1997);
        due("ROOM of 3", x.bill(0, 1, 10, 0), 0);
        CityBank y = bankOfLines(1998);
        refused(y, "ROOM of 2", () -> y.bill(0, 1, 10, 0), -3);
    }

    // Term II: "less 3 for each ORDER that waits"
    static void ordersThatWaitKeepARoomOf3() {
        CityBank x = bankOfLines(1993);
        due("ROOM of 7", today(x, 0, 1, 10), 0);
        due("ROOM of 4", today(x, 0, 1, 10), 1);
        refused(x, "ROOM of 1, for an ORDER", () -> today(x, 0, 1, 10), -3);
        due("ROOM of 1, for a LINE", x.prolong(0), 1);
        refused(x, "ROOM of 0", () -> x.prolong(0), -3);
        due("close", x.close(), 2);
        due("LINES", x.count(6), 1998);
        due("ROOM of 2, none waiting", x.prolong(0), 1);
        due("ROOM of 1", x.prolong(0), 1);
        refused(x, "ROOM of 0", () -> x.prolong(0), -3);
    }

    // Term II: "(A LINE of 0 is not written.)", of coins
    static void coinsOf0AreNotWritten() {
        CityBank x = new CityBank();
        x.account();
        x.kind(100, 1, 10);
        fill(x, 0, 0, 99);
        due("take of what is worth 0", x.take(0, 0, 0), 1);
        due("LINES", x.count(6), 0);
        due("FOLIOS", x.count(7), 0);
        due("FOLIO", x.accountOf(0, 0), -1);
        due("redeem of it", x.redeem(0), 0);
        due("LINES", x.count(6), 0);
        fill(x, 0, 0, 100);
        due("take of what is worth 1", x.take(0, 0, 0), 1);
        due("LINES", x.count(6), 1);
        due("redeem of it", x.redeem(1), 1);
        due("LINES", x.count(6), 2);
    }

    // Term II, the same sentence, of a FEE
    static void aFeeOf0IsNotWritten() {
        CityBank x = bank(1);
        bring(x, 0, 199);
        bring(x, 0, 200);
        due("FEE of 0", x.prolong(0), 0);
        due("LINES", x.count(6), 2);
        due("FEE of 1", x.prolong(1), 1);
        due("LINES", x.count(6), 3);
    }

    // Term II, the same sentence, of a FINE
    static void aFineOf0IsNotWritten() {
        CityBank x = bank(3);
        bring(x, 0, 32);
        due("order", today(x, 0, 1, 33), 0);
        due("order of one who has nothing", today(x, 2, 1, 1000), 1);
        due("close", x.close(), 0);
        due("LINES: 33 * 3 / 100 is 0, of nothing nothing is paid", x.count(6), 1);
        due("order", today(x, 0, 1, 34), 2);
        due("close", x.close(), 0);
        due("LINES: 34 * 3 / 100 is 1", x.count(6), 2);
        due("BALANCE", x.balance(0), 31);
    }
}
