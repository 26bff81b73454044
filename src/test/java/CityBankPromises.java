/** One method for each promise of the document: ordinary inputs, the edges that it names, and wrong inputs. */
public final class CityBankPromises {
    private static final int MIN = Integer.MIN_VALUE;
    private static final int MAX = Integer.MAX_VALUE;
    private static int wrong = 0;
    private static int promise = 0;

    private CityBankPromises() {
    }

    private static void due(String call, long got, long want) {
        if (got != want) {
            wrong++;
            System.out.println("promise " + promise + ": " + call + " answered " + got + ", due is " + want);
        }
    }

    private static void due(String call, boolean got, boolean want) {
        due(call, got ? 1L : 0L, want ? 1L : 0L);
    }

    public static void main(String[] args) {
        for (promise = 1; promise <= 37; promise++) {
            check(promise);
        }
        System.out.println(wrong == 0 ? "all promises hold" : wrong + " answers are not as due");
        if (wrong != 0) {
            System.exit(1);
        }
    }

    private static void check(int number) {
        switch (number) {
            case 1: newObject(); break;
            case 2: terms(); break;
            case 3: kind(); break;
            case 4: account(); break;
            case 5: attorney(); break;
            case 6: take(); break;
            case 7: redeem(); break;
            case 8: prolong(); break;
            case 9: give(); break;
            case 10: order(); break;
            case 11: bill(); break;
            case 12: slip(); break;
            case 13: close(); break;
            case 14: suspects(); break;
            case 15: suspect(); break;
            case 16: mend(); break;
            case 17: weighed(); break;
            case 18: loan(); break;
            case 19: tell(); break;
            case 20: gap(); break;
            case 21: run(); break;
            case 22: accountOf(); break;
            case 23: folio(); break;
            case 24: balance(); break;
            case 25: written(); break;
            case 26: line(); break;
            case 27: lineSum(); break;
            case 28: orderOf(); break;
            case 29: receipt(); break;
            case 30: book(); break;
            case 31: vault(); break;
            case 32: count(); break;
            case 33: sum(); break;
            case 34: row(); break;
            case 35: tear(); break;
            case 36: write(); break;
            case 37: paste(); break;
            default: due("a test for each promise", number, 0); break;
        }
    }

    // ---- what the tests build upon

    /** So many accounts, and one kind of pure coin of any weight up to 100000. */
    private static CityBank bank(int accounts) {
        CityBank x = new CityBank();
        due("kind", x.kind(100000, 1, 1000), 0);
        for (int i = 0; i < accounts; i++) {
            due("account", x.account(), i);
        }
        return x;
    }

    private static void fill(CityBank x, int slot, int width, long... numbers) {
        due("row", x.row(slot, width, numbers.length), 0);
        for (int i = 0; i < numbers.length; i++) {
            due("write", x.write(slot, i, numbers[i]), 0);
        }
    }

    /** Coins of kind 0 to an account, by way of slot 3. */
    private static void bring(CityBank x, int account, long... coins) {
        fill(x, 3, 3, coins);
        due("take of " + coins.length, x.take(account, 0, 3), coins.length);
    }

    private static void pass(CityBank x, int days) {
        for (int i = 0; i < days; i++) {
            x.close();
        }
    }

    private static int today(CityBank x, int from, int to, long sum) {
        return x.order(from, to, sum, 5, from);
    }

    // ---- the promises

    private static void newObject() {
        CityBank x = new CityBank();
        for (int what = 0; what <= 10; what++) {
            due("count(" + what + ")", x.count(what), what == 8 ? 40 : 0);
        }
        for (int what = 0; what <= 4; what++) {
            due("sum(" + what + ")", x.sum(what), 0);
        }
        for (int slot = 0; slot < 4; slot++) {
            due("write to nothing", x.write(slot, 0, 1), -5);
            due("tear of nothing", x.tear(slot), false);
        }
        due("vault", x.vault(0, 0), -1);
        due("balance", x.balance(0), 0);
        due("accountOf", x.accountOf(0, 1), -2);
        due("suspect", x.suspect(0, 0), -1);
        due("NONE", CityBank.NONE, -1);
        // each object for itself
        CityBank y = new CityBank();
        x.account();
        x.row(0, 0, 1);
        due("another's accounts", y.count(2), 0);
        due("another's rows", y.count(10), 0);
    }

    private static int termsOf(CityBank x, int[] t) {
        return x.terms(t[0], t[1], t[2], t[3], t[4], t[5], t[6], t[7]);
    }

    private static void terms() {
        CityBank x = bank(1);
        int[] least = {1, 0, 1, 0, 0, 0, -100, 30};
        int[] most = {100000, 100, 1000, 100, 1000, 100, 60, 300};
        for (int p = 0; p < 8; p++) {
            int[] t = {1000, 5, 180, 3, 10, 5, 30, 60};
            int[][] rows = {{least[p], 0}, {least[p] - 1, -2}, {most[p], 0}, {most[p] + 1, -2}, {MIN, -2}, {MAX, -2}};
            for (int[] row : rows) {
                t[p] = row[0];
                due("terms, number " + p + " " + row[0], termsOf(x, t), row[1]);
            }
        }
        due("LOW and TOP at the top", x.terms(1000, 5, 180, 3, 10, 5, 300, 300), 0);
        due("LOW and TOP at the bottom", x.terms(1000, 5, 180, 3, 10, 5, -100, -100), 0);
        due("LOW and TOP above", x.terms(1000, 5, 180, 3, 10, 5, 301, 301), -2);
        due("LOW and TOP below", x.terms(1000, 5, 180, 3, 10, 5, -101, -101), -2);
        due("LOW above TOP", x.terms(1000, 5, 180, 3, 10, 5, 31, 30), -2);
        termsKept();
        termsUsed();
    }

    private static void termsKept() {
        CityBank x = bank(2);
        due("terms", x.terms(2000, 100, 7, 50, 10, 5, 30, 60), 0);
        due("wrong terms", x.terms(1, 0, 1, 0, 0, 0, 0, 301), -2);
        bring(x, 0, 500);
        due("book by RATE", x.book(0), 1000);
        due("due by LAPSE", x.receipt(0, 4), 7);
        due("FEE", x.prolong(0), 100);
        due("order", today(x, 0, 1, 1001), 0);
        x.close();
        due("FINE", x.balance(0), 900 - 500);
    }

    private static void termsUsed() {
        CityBank x = bank(2);
        bring(x, 0, 1000);
        due("terms", x.terms(100000, 0, 1, 0, 10, 5, 30, 60), 0);
        due("BOOK stays", x.book(0), 1000);
        due("BALANCE stays", x.balance(0), 1000);
        due("due DAY stays", x.receipt(0, 4), 180);
        due("vault by the new RATE", x.vault(0, 2), 100000);
        due("AGIO is not moved at once", x.count(8), 40);
        due("new FEE", x.redeem(0), 1000);
    }

    private static void kind() {
        CityBank x = new CityBank();
        int[][] bad = {{0, 1, 1}, {100001, 1, 1}, {MIN, 1, 1}, {MAX, 1, 1}, {100, 0, 1}, {100, 101, 1}, {100, MIN, 1},
            {100, 1, 0}, {100, 1, 1001}, {100, 1, -5}};
        for (int[] k : bad) {
            due("kind " + k[0] + " " + k[1] + " " + k[2], x.kind(k[0], k[1], k[2]), -2);
        }
        due("no kinds", x.count(1), 0);
        due("kind 0", x.kind(1, 1, 1), 0);
        due("kind 1", x.kind(100000, 100000, 1000), 1);
        due("kind 2", x.kind(100000, 1, 1), 2);
        for (int i = 3; i < 6; i++) {
            due("kind " + i, x.kind(10, 5, 900), i);
        }
        due("kind 6", x.kind(10, 5, 900), -3);
        due("wrong is told ahead", x.kind(10, 11, 900), -2);
        due("six kinds", x.count(1), 6);
    }

    private static void account() {
        CityBank x = new CityBank();
        for (int i = 0; i < 24; i++) {
            due("account", x.account(), i);
            due("its balance", x.balance(i), 0);
            due("its attorney", x.accountOf(i, 2), -1);
        }
        due("account 24", x.account(), -3);
        due("accounts", x.count(2), 24);
    }

    private static void attorney() {
        CityBank x = bank(2);
        int[][] bad = {{2, 5, 5}, {-1, 5, 5}, {MAX, 5, 5}, {0, -1, 5}, {0, 100, 5}, {0, 5, -1}, {0, 5, 5001}, {0, MIN, 5}, {0, 5, MAX}};
        for (int[] a : bad) {
            due("attorney " + a[0] + " " + a[1] + " " + a[2], x.attorney(a[0], a[1], a[2]), -2);
        }
        due("none yet", x.accountOf(0, 2), -1);
        due("attorney", x.attorney(0, 99, 5000), 0);
        due("attorney 0", x.attorney(1, 0, 0), 0);
        due("his last day", x.accountOf(0, 3), 5000);
        due("another one", x.attorney(0, 50, 1), 0);
        due("who", x.accountOf(0, 2), 50);
        due("until", x.accountOf(0, 3), 1);
        due("the other account's", x.accountOf(1, 2), 0);

        bring(x, 0, 1000);
        due("by one who was", x.order(0, 1, 10, 3, 99), 0);
        due("by one who is", x.order(0, 1, 10, 3, 50), 1);
        due("by the holder", x.order(0, 1, 10, 3, 0), 2);
        due("of the other account", x.order(1, 0, 5, 4, 0), 3);
        due("close", x.close(), 3);
        due("who was", x.orderOf(0, 4), 2);
        due("who is", x.orderOf(1, 4), 1);
        due("holder", x.orderOf(2, 4), 1);
        due("attorney up to day 0, with it", x.orderOf(3, 4), 1);
        due("on his last day", x.order(0, 1, 10, 3, 50), 4);
        due("of the next day", x.order(0, 1, 10, 11, 50), 5);
        due("close", x.close(), 1);
        due("last day", x.orderOf(4, 4), 1);
        due("close", x.close(), 0);
        due("behind it", x.orderOf(5, 4), 2);
    }

    private static void take() {
        CityBank x = new CityBank();
        x.account();
        x.account();
        due("kind", x.kind(100, 90, 917), 0);
        due("kind", x.kind(300, 1, 1000), 1);
        due("slot has nothing", x.take(0, 0, 0), -5);
        fill(x, 0, 1, 100, 90, 89, 101, 0, -95, 99);
        int[][] bad = {{-1, 0, 0}, {2, 0, 0}, {0, -1, 0}, {0, 2, 0}, {0, 0, -1}, {0, 0, 4}, {MAX, 0, 0}, {0, MIN, 0}, {0, 0, MAX}, {2, 0, 1}};
        for (int[] t : bad) {
            due("take " + t[0] + " " + t[1] + " " + t[2], x.take(t[0], t[1], t[2]), -2);
        }
        due("no line", x.count(6), 0);
        due("take", x.take(1, 0, 0), 3);
        due("balance: 289 * 917 / 1000", x.balance(1), 265);
        due("coins", x.vault(0, 0), 3);
        due("weight", x.vault(0, 1), 289);
        due("receipt", x.receipt(0, 2), 3);
        due("line", x.count(6), 1);
        due("take by another kind", x.take(0, 1, 0), 5);
        due("its weight", x.receipt(1, 3), 100 + 90 + 89 + 101 + 99);
        due("its account", x.receipt(1, 0), 0);
        due("kind 0 has what it had", x.vault(0, 0), 3);

        fill(x, 1, 2, 101, 89);
        due("none is taken", x.take(0, 0, 1), 0);
        fill(x, 2, 0);
        due("an empty row", x.take(0, 0, 2), 0);
        due("no receipt", x.count(5), 2);
        due("slots keep their rows", x.count(10), 3);
        takeOfNoValue();
        takeByWidths();
        takeOfMany();
    }

    private static void takeOfNoValue() {
        CityBank x = new CityBank();
        x.account();
        x.kind(100, 1, 1);
        fill(x, 0, 0, 99);
        due("take of what is worth 0", x.take(0, 0, 0), 1);
        due("a receipt", x.count(5), 1);
        due("of 0", x.book(0), 0);
        due("no line of 0", x.count(6), 0);
        due("no folio", x.count(7), 0);
        due("coins in the vault", x.vault(0, 0), 1);
        due("redeem for 0", x.redeem(0), 0);
        due("no line of 0", x.count(6), 0);
        due("out of the vault", x.vault(0, 0), 0);
        // each step of BOOK is cut: 1999 * 1 / 1000 = 1, 1 * 1999 / 1000 = 1
        due("kind", x.kind(1999, 1, 1), 1);
        due("terms", x.terms(1999, 5, 180, 3, 10, 5, 30, 60), 0);
        fill(x, 0, 1, 1999);
        due("take", x.take(0, 1, 0), 1);
        due("both cut", x.book(1), 1);
    }

    private static void takeByWidths() {
        CityBank x = bank(1);
        long[][] rows = {{0, 127, 127}, {0, 128, -1}, {0, 256 + 7, 7}, {1, 32767, 32767}, {1, 32768, -1}, {1, 65536 + 9, 9},
            {2, 100000, 100000}, {2, (1L << 31) + 5, -1}, {2, (1L << 32) + 5, 5}, {3, (1L << 32) + 5, -1}, {3, 5, 5}};
        for (long[] r : rows) {
            fill(x, 0, (int) r[0], r[1]);
            due("weight " + r[1] + " of width " + r[0], x.weighed(0, 0, 3), r[2] < 0 ? 0 : r[2]);
            due("take of it", x.take(0, 0, 0), r[2] < 0 ? 0 : 1);
        }
    }

    private static void takeOfMany() {
        CityBank x = bank(1);
        fill(x, 0, 0, 1);
        for (int i = 0; i < 200; i++) {
            due("take " + i, x.take(0, 0, 0), 1);
        }
        due("receipts", x.count(5), 200);
        due("take 200", x.take(0, 0, 0), -3);
        fill(x, 0, 0, 0);
        due("asked ahead of the coins", x.take(0, 0, 0), -3);
        due("nothing ahead of that", x.take(0, 0, 1), -5);
        due("balance", x.balance(0), 200);
        due("redeem", x.redeem(0), 1);
        due("a receipt that is gone counts", x.take(0, 0, 0), -3);
        CityBank y = bank(1);
        long[] coins = new long[60];
        java.util.Arrays.fill(coins, 100000L);
        y.terms(100000, 0, 1, 0, 0, 0, 30, 60);
        bring(y, 0, coins);
        due("the dearest row", y.balance(0), 600000000L);
    }

    private static void redeem() {
        CityBank x = bank(2);
        bring(x, 0, 999, 1);
        bring(x, 0, 500);
        for (int r : new int[] {-1, 2, MIN, MAX}) {
            due("redeem " + r, x.redeem(r), -2);
        }
        due("redeem: 500 and 500 * 5 / 1000", x.redeem(1), 502);
        due("balance", x.balance(0), 998);
        due("less than BOOK and FEE", x.redeem(0), -7);
        due("still open", x.receipt(0, 5), 0);
        due("coins", x.vault(0, 0), 2);
        due("weight", x.vault(0, 1), 1000);
        due("fees", x.sum(2), 2);
        due("one line", x.count(6), 3);
        due("a debit", x.line(2, 3), 0);
        due("of all", x.lineSum(2), 502);
        due("of no order", x.line(2, 4), -1);
        due("again", x.redeem(1), -2);
        due("redeemed", x.receipt(1, 5), 1);
        bring(x, 1, 1005);
        due("give", x.give(0, 1), 0);
        due("by the account that has it, to its last", x.redeem(0), 1005);
        due("balance 1", x.balance(1), 0);
        due("balance 0", x.balance(0), 998);
        redeemOfLessCoins();
        redeemOfLessWeight();
        redeemOfLapsed();
    }

    private static void redeemOfLessCoins() {
        CityBank x = bank(2);
        bring(x, 0, 100, 100);
        bring(x, 1, 100);
        x.terms(1000, 0, 180, 3, 10, 5, 30, 60);
        due("loan", x.loan(0, 2, 0), 0);
        due("less coins", x.redeem(0), -8);
        due("still open", x.receipt(0, 5), 0);
        due("nothing is paid", x.balance(0), 200);
        due("one coin is there", x.redeem(1), 100);
        due("vault has none", x.vault(0, 0), 0);
        today(x, 0, 1, 1);
        x.close();
        due("the balance is asked ahead", x.redeem(0), -7);
    }

    private static void redeemOfLessWeight() {
        CityBank x = bank(2);
        bring(x, 0, 1, 1, 1);
        bring(x, 0, 100);
        x.terms(1000, 0, 180, 3, 10, 5, 30, 60);
        due("loan: 103 * 2 / 4", x.loan(0, 2, 0), 0);
        due("weight left", x.vault(0, 1), 52);
        due("coins enough, weight less", x.redeem(1), -8);
        due("balance", x.balance(0), 103);
    }

    private static void redeemOfLapsed() {
        CityBank x = bank(1);
        x.terms(1000, 0, 2, 3, 10, 5, 30, 60);
        bring(x, 0, 100);
        bring(x, 0, 200);
        x.close();
        x.close();
        due("on the day when it is due", x.redeem(0), 100);
        x.close();
        due("behind it", x.redeem(1), -2);
        due("lapsed", x.receipt(1, 5), 2);
        due("redeemed stays so", x.receipt(0, 5), 1);
        due("the coins stay", x.vault(0, 1), 200);
        due("the balance stays", x.balance(0), 200);
    }

    private static void prolong() {
        CityBank x = bank(2);
        bring(x, 0, 1000);
        for (int r : new int[] {-1, 1, MIN, MAX}) {
            due("prolong " + r, x.prolong(r), -2);
        }
        due("prolong", x.prolong(0), 5);
        due("due", x.receipt(0, 4), 360);
        due("balance", x.balance(0), 995);
        due("fees", x.sum(2), 5);
        due("line", x.count(6), 2);
        due("a debit", x.line(1, 3), 0);
        due("of the fee", x.lineSum(1), 5);
        x.terms(1000, 100, 7, 3, 10, 5, 30, 60);
        due("by the terms as they are", x.prolong(0), 100);
        due("due", x.receipt(0, 4), 367);
        due("give", x.give(0, 1), 0);
        due("the account that has it has less", x.prolong(0), -7);
        due("due as it was", x.receipt(0, 4), 367);
        bring(x, 1, 99);
        due("one less", x.prolong(0), -7);
        bring(x, 1, 1);
        due("just enough", x.prolong(0), 100);
        due("nothing left", x.balance(1), 0);
        x.terms(1000, 0, 7, 3, 10, 5, 30, 60);
        due("a fee of 0", x.prolong(0), 0);
        due("no line of 0", x.count(6), 6);
        bring(x, 1, 1000);
        due("redeem", x.redeem(0), 1000);
        due("a receipt that is gone", x.prolong(0), -2);
        prolongKeepsOpen();
    }

    private static void prolongKeepsOpen() {
        CityBank x = bank(1);
        x.terms(1000, 5, 1, 3, 10, 5, 30, 60);
        bring(x, 0, 100);
        bring(x, 0, 100);
        x.close();
        due("prolong on the day", x.prolong(0), 0);
        x.close();
        due("open", x.receipt(0, 5), 0);
        due("lapsed", x.receipt(1, 5), 2);
        due("prolong of what lapsed", x.prolong(1), -2);
        x.close();
        due("lapsed then", x.receipt(0, 5), 2);
    }

    private static void give() {
        CityBank x = bank(3);
        bring(x, 0, 100);
        for (int bad : new int[] {-1, 1, MIN, MAX}) {
            due("give of " + bad, x.give(bad, 1), -2);
        }
        for (int bad : new int[] {-1, 3, MIN, MAX}) {
            due("give to " + bad, x.give(0, bad), -2);
        }
        due("still 0's", x.receipt(0, 0), 0);
        due("give", x.give(0, 2), 0);
        due("2's", x.receipt(0, 0), 2);
        due("balances stay", x.balance(0), 100);
        due("to whom it is", x.give(0, 2), 0);
        due("who has nothing", x.redeem(0), -7);
        due("back", x.give(0, 0), 0);
        bring(x, 0, 100);
        due("redeem", x.redeem(0), 100);
        due("gone", x.give(0, 1), -2);
        pass(x, 181);
        due("lapsed", x.give(1, 1), -2);
    }

    private static void order() {
        CityBank x = bank(3);
        long big = 1000000000L;
        long[][] bad = {{-1, 1, 5, 5, 0}, {3, 1, 5, 5, 0}, {0, -1, 5, 5, 0}, {0, 3, 5, 5, 0}, {1, 1, 5, 5, 0}, {0, 1, 0, 5, 0},
            {0, 1, -1, 5, 0}, {0, 1, big + 1, 5, 0}, {0, 1, Long.MAX_VALUE, 5, 0}, {0, 1, Long.MIN_VALUE, 5, 0},
            {0, 1, (1L << 32) + 5, 5, 0}, {0, 1, 5, -1, 0}, {0, 1, 5, 24, 0}, {0, 1, 5, MAX, 0}, {0, 1, 5, 5, -1},
            {0, 1, 5, 5, 100}, {0, 1, 5, 5, MIN}};
        for (long[] o : bad) {
            due("order " + java.util.Arrays.toString(o), x.order((int) o[0], (int) o[1], o[2], (int) o[3], (int) o[4]), -2);
        }
        due("none", x.count(3), 0);
        x.close();
        due("order at 0", x.order(0, 1, 1, 0, 99), 0);
        due("order at 10", x.order(0, 1, big, 10, 0), 1);
        due("order at 11", x.order(0, 1, 5, 11, 0), 2);
        due("order at 23", x.order(2, 0, 5, 23, 0), 3);
        due("day of hour 0", x.orderOf(0, 2), 1);
        due("day of hour 10", x.orderOf(1, 2), 1);
        due("day of hour 11", x.orderOf(2, 2), 2);
        due("day of hour 23", x.orderOf(3, 2), 2);
        due("they wait", x.count(4), 4);
        due("no line yet", x.count(6), 0);
        due("close", x.close(), 0);
        due("of the next day still wait", x.count(4), 2);
        x.close();
        due("none waits", x.count(4), 0);
        CityBank y = bank(2);
        for (int i = 0; i < 300; i++) {
            due("order " + i, y.order(0, 1, 5, 5, 0), i);
        }
        due("order 300", y.order(0, 1, 5, 5, 0), -3);
        due("wrong is told ahead", y.order(0, 0, 5, 5, 0), -2);
        due("orders", y.count(3), 300);
        y.close();
        due("all are kept", y.order(0, 1, 5, 5, 0), -3);
        due("bills too", y.bill(0, 1, 5, 5), -3);
        orderWithoutRoom();
        lineWithoutRoom();
    }

    /** A bank with so many lines, more than the calls that the document promises can write. */
    private static CityBank bankOfLines(int lines) {
        CityBank x = bank(2);
        x.terms(1000, 1, 1000, 3, 10, 5, 30, 60);
        bring(x, 0, 1000);
        bring(x, 0, 100000);
        for (int i = 2; i < lines; i++) {
            x.prolong(0);
        }
        due("lines", x.count(6), lines);
        return x;
    }

    private static void orderWithoutRoom() {
        CityBank x = bankOfLines(1994);
        due("room of 6", today(x, 0, 1, 10), 0);
        due("room of 3", x.bill(0, 1, 10, 0), 1);
        due("room of 0", today(x, 0, 1, 10), -3);
        due("room of 0, a bill", x.bill(0, 1, 10, 0), -3);
        due("take", x.take(0, 0, 3), -3);
        due("redeem", x.redeem(0), -3);
        due("prolong", x.prolong(0), -3);
        due("none of these did anything", x.count(6), 1994);
        due("slip", x.slip(0, 0, 0), 0);
        due("close", x.close(), 2);
        due("lines", x.count(6), 1997);
        due("room of 3", x.order(0, 1, 10, 11, 0), 2);
        due("no room to put a line in", x.mend(0), false);
        due("not put right", x.orderOf(0, 6), 0);
        pass(x, 2);
        due("room of 1", x.count(6), 1999);
        due("is none for an order", today(x, 0, 1, 10), -3);
        due("but for a line", x.mend(0), true);
        due("all lines", x.count(6), 2000);
    }

    private static void lineWithoutRoom() {
        CityBank x = bankOfLines(1997);
        due("room of 3", x.prolong(0), 1);
        due("room of 2 is none for an order", today(x, 0, 1, 10), -3);
        due("room of 2", x.take(0, 0, 3), 1);
        due("room of 1", x.redeem(2), 100100);
        due("room of 0", x.redeem(0), -3);
        CityBank y = bankOfLines(1999);
        due("room of 1", y.prolong(0), 1);
        due("room of 0", y.prolong(0), -3);
        CityBank z = bankOfLines(1999);
        due("room of 1", z.take(0, 0, 3), 1);
        due("room of 0", z.take(0, 0, 3), -3);
    }

    private static void bill() {
        CityBank x = bank(2);
        long[][] bad = {{-1, 1, 5, 5}, {2, 1, 5, 5}, {0, 2, 5, 5}, {0, 0, 5, 5}, {0, 1, 0, 5}, {0, 1, 1000000001L, 5},
            {0, 1, 5, -1}, {0, 1, 5, 1001}, {0, 1, 5, MAX}, {0, 1, 5, MIN}};
        for (long[] b : bad) {
            due("bill " + java.util.Arrays.toString(b), x.bill((int) b[0], (int) b[1], b[2], (int) b[3]), -2);
        }
        bring(x, 0, 100);
        due("close", x.close(), 0);
        due("bill of two days on", x.bill(0, 1, 40, 2), 0);
        due("bill of now", x.bill(0, 1, 50, 0), 1);
        due("its day", x.orderOf(0, 2), 3);
        due("its hour", x.orderOf(0, 3), 9);
        due("from", x.orderOf(0, 0), 0);
        due("to", x.orderOf(0, 1), 1);
        due("it waits", x.orderOf(0, 4), 0);
        due("day 1", x.close(), 1);
        due("day 2", x.close(), 0);
        due("not yet", x.balance(1), 50);
        due("day 3", x.close(), 1);
        due("paid", x.balance(1), 90);
        due("bill on what is not there", x.bill(0, 1, 100, 0), 2);
        x.close();
        due("refused", x.orderOf(2, 4), 3);
        due("FINE", x.balance(0), 7);
    }

    private static void slip() {
        CityBank x = bank(4);
        bring(x, 0, 10000);
        due("order", today(x, 0, 1, 123), 0);
        int[][] bad = {{-1, 0, 0}, {1, 0, 0}, {MAX, 0, 0}, {0, -1, 0}, {0, 4, 0}, {0, MIN, 0}, {0, 0, 1}, {0, 0, -1}, {0, 1, 1},
            {0, 2, -1}, {0, 2, 9}, {0, 3, 0}, {0, 3, 1}, {0, 3, 4}, {0, 3, -1}};
        for (int[] s : bad) {
            due("slip " + s[0] + " " + s[1] + " " + s[2], x.slip(s[0], s[1], s[2]), -2);
        }
        due("no slip", x.orderOf(0, 5), -1);
        int[][] good = {{0, 0}, {1, 0}, {2, 0}, {2, 8}, {3, 2}, {3, 3}};
        for (int[] s : good) {
            due("slip " + s[0] + " " + s[1], x.slip(0, s[0], s[1]), 0);
            due("in place of another", x.orderOf(0, 5), s[0]);
        }
        due("close", x.close(), 1);
        due("the latest holds", x.line(2, 1), 3);
        due("behind the day", x.slip(0, 0, 0), -2);
        due("a refused one", today(x, 1, 0, 5000), 1);
        due("slip", x.slip(1, 1, 0), 0);
        x.close();
        due("a refused one is past", x.slip(1, 0, 0), -2);
        due("its slip stays told", x.orderOf(1, 5), 1);
        slipsAsWritten();
    }

    private static void slipsAsWritten() {
        long[][] rows = {{123, 0, 132}, {123, 1, 213}, {123, 2, 1023}, {123, 3, 123}, {1000000000L, 8, 100000000L},
            {900000000L, 8, 9000000000L}, {999999999L, 8, 9099999999L}, {7, 0, 70}, {100, 8, 100}, {120000000L, 7, 210000000L}};
        for (long[] r : rows) {
            CityBank x = bank(2);
            x.terms(100000, 0, 180, 0, 10, 5, 30, 60);
            long[] coins = new long[60];
            java.util.Arrays.fill(coins, 100000L);
            bring(x, 0, coins);
            bring(x, 0, coins);
            due("order", today(x, 0, 1, r[0]), 0);
            due("slip", x.slip(0, 2, (int) r[1]), 0);
            due("close", x.close(), 1);
            due("credit of " + r[0] + " at " + r[1], x.lineSum(3), r[2]);
            due("it is a credit", x.line(3, 3), 1);
            due("balance", x.balance(1), r[0]);
            due("written", x.written(1), r[2]);
        }
        CityBank x = bank(3);
        bring(x, 0, 100);
        today(x, 0, 1, 10);
        today(x, 0, 1, 20);
        today(x, 0, 1, 30);
        x.slip(0, 0, 0);
        x.slip(1, 1, 0);
        x.slip(2, 3, 2);
        due("close", x.close(), 3);
        due("lines", x.count(6), 6);
        due("a debit in place of the credit", x.line(3, 3), 0);
        due("on the right account", x.line(3, 1), 1);
        due("of its sum", x.lineSum(3), 20);
        due("on another account", x.line(5, 1), 2);
        due("on its folio", x.line(5, 2), x.folio(2, 0));
        due("its balance is none", x.balance(2), 0);
        due("balance", x.balance(1), 60);
        due("written", x.written(1), -20);
        due("agio as if none slipped", x.count(8), 40);
    }

    private static void close() {
        CityBank x = bank(3);
        bring(x, 0, 100);
        // 1 can only pay at hour 8 what it gets at hour 7, told later
        today(x, 2, 0, 7);
        due("order 1", x.order(1, 2, 60, 8, 1), 1);
        due("order 2", x.order(0, 1, 60, 7, 0), 2);
        due("order 3", x.order(0, 1, 40, 7, 0), 3);
        due("order 4", x.order(0, 1, 1, 7, 0), 4);
        due("close", x.close(), 3);
        due("order 0 has no balance", x.orderOf(0, 4), 3);
        due("order 1 is done", x.orderOf(1, 4), 1);
        due("order 4 comes behind 3", x.orderOf(4, 4), 3);
        due("the first line is 2's", x.line(1, 4), 2);
        due("then 3's", x.line(3, 4), 3);
        due("then 1's", x.line(5, 4), 1);
        due("debit ahead of credit", x.line(5, 3), 0);
        due("credit", x.line(6, 3), 1);
        due("no fine was there to pay", x.count(6), 7);
        due("balance 0", x.balance(0), 0);
        due("balance 1", x.balance(1), 40);
        due("balance 2", x.balance(2), 60);
        due("day", x.count(0), 1);
        closeWithFines();
        closeWithTheFirstTerms();
        closeWithAgio();
        closeUpToTheLastDay();
    }

    private static void closeWithFines() {
        CityBank x = bank(2);
        x.terms(1000, 5, 180, 50, 10, 5, 30, 60);
        bring(x, 0, 99);
        today(x, 0, 1, 100);
        today(x, 0, 1, 99);
        due("signer and balance are both wrong", x.order(0, 1, 1000, 6, 1), 2);
        due("close", x.close(), 0);
        due("50 and then 49 are paid", x.balance(0), 99 - 50 - 49);
        due("fines", x.sum(2), 99);
        due("two lines", x.count(6), 3);
        due("of no order", x.line(1, 4), -1);
        due("of 50", x.lineSum(1), 50);
        due("the rest", x.lineSum(2), 49);
        due("signer first", x.orderOf(2, 4), 2);
        due("nobody has them", x.sum(0), 0);
        bring(x, 0, 33);
        x.terms(1000, 5, 180, 3, 10, 5, 30, 60);
        today(x, 0, 1, 34);
        x.close();
        due("34 * 3 / 100 is 1", x.balance(0), 32);
        today(x, 0, 1, 33);
        x.close();
        due("33 * 3 / 100 is 0", x.balance(0), 32);
        due("the whole balance goes", today(x, 0, 1, 32), 5);
        due("close", x.close(), 1);
        due("nothing is left", x.balance(0), 0);
    }

    private static void closeWithTheFirstTerms() {
        CityBank x = bank(2);
        bring(x, 0, 100);
        x.close();
        due("10 * -100 / 1100 = 0", x.count(8), 40);
        bring(x, 0, 112);
        x.close();
        due("10 * -112 / 1112 = -1", x.count(8), 39);
        long[] agio = {34, 30, 30};
        for (int i = 0; i < 3; i++) {
            bring(x, 0, 90000);
            x.close();
            due("STEP 5, LOW 30", x.count(8), agio[i]);
        }
        due("bought", x.sum(4), 1 + 5);
        for (int i = 0; i < 7; i++) {
            today(x, 0, 1, 30000);
            x.close();
        }
        due("TOP 60", x.count(8), 60);
        due("sold", x.sum(3), 5);
        CityBank y = bank(1);
        bring(y, 0, 1000);
        due("LAPSE 180", y.receipt(0, 4), 180);
        due("FEE 5", y.prolong(0), 5);
    }

    private static void closeWithAgio() {
        CityBank x = bank(2);
        x.terms(1000, 0, 180, 0, 10, 100, -100, 300);
        bring(x, 0, 1000);
        x.close();
        due("10 * -1000 / 2000 = -5", x.count(8), 35);
        today(x, 0, 1, 300);
        x.close();
        due("10 * 300 / 1300 = 2", x.count(8), 37);
        bring(x, 0, 300);
        x.close();
        due("10 * -300 / 1300 = -2, cut towards 0", x.count(8), 35);
        bring(x, 0, 500);
        today(x, 0, 1, 300);
        x.close();
        due("10 * -200 / 1800 = -1", x.count(8), 34);
        x.close();
        due("each day begins with nothing", x.count(8), 34);
        x.terms(1000, 0, 180, 0, 1000, 3, -100, 300);
        today(x, 0, 1, 900);
        x.close();
        due("at most STEP more", x.count(8), 37);
        bring(x, 0, 900);
        x.close();
        due("at most STEP less", x.count(8), 34);
        x.terms(1000, 0, 180, 0, 1000, 0, -100, 300);
        bring(x, 0, 900);
        x.close();
        due("STEP 0", x.count(8), 34);
        x.terms(1000, 0, 180, 0, 0, 5, 40, 60);
        x.close();
        due("held at LOW", x.count(8), 40);
        due("bought", x.sum(4), 6);
        x.terms(1000, 0, 180, 0, 0, 5, 30, 33);
        x.close();
        due("held at TOP", x.count(8), 33);
        due("sold", x.sum(3), 7);
        due("bought as it was", x.sum(4), 6);
        x.close();
        due("at TOP nothing is sold", x.sum(3), 7);
        closeWithAgioAtItsEnds();
    }

    private static void closeWithAgioAtItsEnds() {
        CityBank x = bank(2);
        x.terms(1000, 0, 180, 0, 1000, 100, -100, 300);
        bring(x, 0, 90000);
        x.close();
        bring(x, 0, 90000);
        x.close();
        due("not below -100", x.count(8), -100);
        due("nothing was bought", x.sum(4), 0);
        for (int i = 0; i < 5; i++) {
            today(x, 0, 1, 9000);
            x.close();
        }
        due("not above 300", x.count(8), 300);
        due("nothing was sold", x.sum(3), 0);
        x.terms(1000, 0, 180, 0, 1000, 100, 30, 60);
        today(x, 0, 1, 9000);
        x.close();
        due("cut to 300 ahead of the house", x.sum(3), 240);
        due("TOP", x.count(8), 60);
        // a refused order is no order done
        x.terms(1000, 0, 180, 0, 1000, 100, 0, 100);
        today(x, 0, 1, 1000000000L);
        x.close();
        due("refused", x.count(8), 60);
        // coins that went out again were taken all the same
        bring(x, 0, 100);
        due("redeem", x.redeem(2), 100);
        x.close();
        due("1000 * -100 / 1100 = -90, 60 - 90 = -30", x.count(8), 0);
        due("bought", x.sum(4), 30);
    }

    private static void closeUpToTheLastDay() {
        CityBank x = bank(1);
        for (int day = 0; day < 5000; day++) {
            if (x.close() != 0) {
                due("close of day " + day, 1, 0);
            }
        }
        due("day", x.count(0), 5000);
        due("close", x.close(), -9);
        due("day", x.count(0), 5000);
    }

    private static void suspects() {
        CityBank x = bank(3);
        bring(x, 0, 100000);
        for (int day : new int[] {-1, 0, 1, MIN, MAX}) {
            due("suspects " + day, x.suspects(day), -2);
        }
        today(x, 0, 1, 40);
        today(x, 0, 1, 80);
        today(x, 0, 1, 80);
        x.slip(1, 0, 0);
        due("close", x.close(), 3);
        // D is 80: of the three debits the two of 80 are whole, the one of 40 is half
        due("suspects", x.suspects(0), 3);
        int[][] found = {{1, 1}, {3, 0}, {4, 0}};
        for (int i = 0; i < 3; i++) {
            due("line of " + i, x.suspect(i, 0), found[i][0]);
            due("how of " + i, x.suspect(i, 1), found[i][1]);
        }
        due("this day is not closed", x.suspects(1), -2);
        x.close();
        due("a day of no lines", x.suspects(1), -1);
        suspectsOfNone();
        suspectsOfOdd();
        suspectsOfNines();
        suspectsOfOrdersAlone();
        suspectsOfManyOrders();
    }

    private static void suspectsOfNone() {
        CityBank x = bank(2);
        bring(x, 0, 100000);
        today(x, 0, 1, 40);
        today(x, 0, 1, 50);
        today(x, 0, 1, 70);
        x.slip(0, 0, 0);
        x.slip(1, 0, 0);
        x.slip(2, 0, 0);
        x.close();
        // D is 160, which no debit is whole or half of
        due("books that do not balance, without suspects", x.suspects(0), 0);
        due("none such", x.suspect(0, 0), -1);
        today(x, 0, 1, 100);
        today(x, 0, 1, 91);
        x.slip(4, 2, 0);
        x.slip(3, 2, 8);
        x.close();
        due("of the day alone", x.suspects(1), 1);
        due("its line", x.suspect(0, 0), 7);
        due("nines", x.suspect(0, 1), 2);
    }

    private static void suspectsOfOdd() {
        CityBank x = bank(2);
        bring(x, 0, 100000);
        today(x, 0, 1, 81);
        today(x, 0, 1, 40);
        x.slip(0, 0, 0);
        x.close();
        // D is 81, odd: 40 is not half of it; the credit of 40 is not 81 more by an exchange
        due("suspects", x.suspects(0), 1);
        due("the whole", x.suspect(0, 0), 1);
        due("whole", x.suspect(0, 1), 0);
    }

    private static void suspectsOfNines() {
        // a credit of 50 for an order of 5: D is -45
        CityBank x = bank(2);
        bring(x, 0, 100000);
        today(x, 0, 1, 5);
        today(x, 0, 1, 61);
        today(x, 0, 1, 45);
        x.slip(0, 2, 0);
        x.close();
        // 50 - 45 = 05 and 61 - 45 = 16 are exchanges, 45 - 45 is none; no debit is below 0
        due("suspects", x.suspects(0), 2);
        due("line", x.suspect(0, 0), 2);
        due("nines", x.suspect(0, 1), 2);
        due("line", x.suspect(1, 0), 4);
        due("nines", x.suspect(1, 1), 2);
        // a debit left out of 27 and a credit of 14: whole, and nines by 14 + 27 = 41
        today(x, 0, 1, 27);
        today(x, 0, 1, 14);
        x.slip(3, 0, 0);
        x.close();
        due("suspects", x.suspects(1), 2);
        due("how", x.suspect(0, 1), 0);
        due("how", x.suspect(1, 1), 2);
        due("line", x.suspect(1, 0), 9);
        // the highest places: 900000000 written as 9000000000
        CityBank y = bank(2);
        y.terms(100000, 0, 180, 0, 10, 5, 30, 60);
        long[] coins = new long[60];
        java.util.Arrays.fill(coins, 100000L);
        bring(y, 0, coins);
        bring(y, 0, coins);
        today(y, 0, 1, 900000000L);
        y.slip(0, 2, 8);
        y.close();
        due("suspects", y.suspects(0), 1);
        due("line", y.suspect(0, 0), 3);
        due("nines", y.suspect(0, 1), 2);
    }

    private static void suspectsOfOrdersAlone() {
        // coins, fees and fines of the day are no order's: neither in D nor suspects
        CityBank x = bank(3);
        x.terms(1000, 100, 180, 10, 10, 5, 30, 60);
        bring(x, 0, 100);
        due("a fee of 10", x.prolong(0), 10);
        today(x, 0, 1, 10);
        today(x, 2, 1, 100);
        today(x, 0, 1, 100);
        x.slip(0, 0, 0);
        due("close", x.close(), 1);
        due("a fine of 10", x.lineSum(3), 10);
        due("suspects", x.suspects(0), 1);
        due("the order's debit", x.suspect(0, 0), 2);
        // a credit written as a debit: D is twice, both are half; a debit of D is whole
        today(x, 0, 1, 20);
        x.slip(3, 1, 0);
        x.close();
        due("suspects", x.suspects(1), 2);
        due("half", x.suspect(0, 1), 1);
        due("half", x.suspect(1, 1), 1);
        // on another account the sums are right
        today(x, 0, 1, 20);
        x.slip(4, 3, 2);
        x.close();
        due("books balance", x.suspects(2), -1);
    }

    private static void suspectsOfManyOrders() {
        CityBank x = bank(2);
        bring(x, 0, 3000);
        for (int i = 0; i < 300; i++) {
            today(x, 0, 1, 10);
        }
        x.slip(299, 0, 0);
        due("close", x.close(), 300);
        due("each debit is one", x.suspects(0), 300);
        due("the last", x.suspect(299, 0), 599);
        due("no more", x.suspect(300, 0), -1);
    }

    private static void suspect() {
        CityBank x = bank(2);
        bring(x, 0, 1000);
        today(x, 0, 1, 10);
        x.slip(0, 1, 0);
        x.close();
        due("ahead of suspects()", x.suspect(0, 0), -1);
        due("suspects", x.suspects(0), 2);
        int[][] rows = {{0, 0, 1}, {0, 1, 1}, {1, 0, 2}, {1, 1, 1}, {0, 2, -1}, {0, -1, -1}, {2, 0, -1}, {-1, 0, -1}, {MAX, 0, -1}, {MIN, 1, -1}};
        for (int[] r : rows) {
            due("suspect " + r[0] + " " + r[1], x.suspect(r[0], r[1]), r[2]);
        }
        due("mend", x.mend(0), true);
        due("as they were found", x.suspect(1, 0), 2);
        due("suspects", x.suspects(0), -1);
        due("none is left of them", x.suspect(0, 0), -1);
    }

    private static void mend() {
        CityBank x = bank(4);
        bring(x, 0, 1000);
        today(x, 0, 1, 10);
        today(x, 0, 1, 21);
        today(x, 0, 1, 30);
        today(x, 0, 1, 40);
        today(x, 0, 1, 55);
        today(x, 0, 1, 60);
        today(x, 2, 1, 70);
        x.slip(0, 0, 0);
        x.slip(1, 2, 0);
        x.slip(2, 1, 0);
        x.slip(3, 3, 3);
        x.slip(4, 2, 0);
        x.slip(6, 0, 0);
        due("it waits", x.mend(0), false);
        due("close", x.close(), 6);
        for (int o : new int[] {-1, 7, MIN, MAX}) {
            due("mend " + o, x.mend(o), false);
        }
        due("without a slip", x.mend(5), false);
        due("refused", x.mend(6), false);
        due("not put right", x.orderOf(1, 6), 0);
        pass(x, 2);
        due("lines", x.count(6), 12);
        for (int o = 0; o < 5; o++) {
            due("mend " + o, x.mend(o), true);
            due("put right", x.orderOf(o, 6), 1);
            due("again", x.mend(o), false);
        }
        due("its slip stays told", x.orderOf(3, 5), 3);
        mendedLines(x);
        due("books balance", x.suspects(0), -1);
        due("written", x.written(1), 216);
        due("balance", x.balance(1), 216);
        due("written of the wrong one", x.written(3), 0);
        mendOnAFullFolio();
    }

    private static void mendedLines(CityBank x) {
        // line 0 brought the coins; 1 is order 0's debit, 2 and 3 order 1's, 4 and 5 order 2's, and so on
        due("sum of order 1", x.lineSum(3), 21);
        due("side of order 2", x.line(5, 3), 1);
        due("sum of order 2", x.lineSum(5), 30);
        due("account of order 3", x.line(7, 1), 1);
        due("its folio stays", x.line(7, 2), x.folio(3, 0));
        due("one line was put in", x.count(6), 13);
        int[] put = {0, 1, x.accountOf(1, 0), 1, 0};
        for (int what = 0; what < 5; what++) {
            due("what was put in, " + what, x.line(12, what), put[what]);
        }
        due("its sum", x.lineSum(12), 10);
    }

    private static void mendOnAFullFolio() {
        CityBank x = bank(3);
        bring(x, 0, 1000);
        for (int i = 0; i < 9; i++) {
            today(x, 0, 1, 10);
        }
        x.slip(8, 3, 2);
        x.close();
        due("folios of 1", x.accountOf(1, 1), 1);
        due("mend", x.mend(8), true);
        due("folios of 1 as they were", x.accountOf(1, 1), 1);
        due("the line's folio is 2's", x.line(18, 2), x.accountOf(2, 0));
        today(x, 0, 1, 10);
        x.slip(9, 0, 0);
        x.close();
        int folios = x.count(7);
        due("mend", x.mend(9), true);
        due("a folio is begun", x.count(7), folios + 1);
        due("by 1", x.accountOf(1, 0), folios);
        due("day of the order", x.line(x.count(6) - 1, 0), 1);
    }

    private static void weighed() {
        CityBank x = new CityBank();
        due("no kind", x.weighed(0, 0, 0), -2);
        x.kind(100, 90, 900);
        x.kind(50, 50, 1000);
        due("nothing", x.weighed(0, 0, 0), -5);
        fill(x, 0, 1, 89, 100, 90, 101, 95, 50);
        int[][] bad = {{-1, 0, 0}, {2, 0, 0}, {0, -1, 0}, {0, 4, 0}, {0, 0, -1}, {0, 0, 5}, {0, 1, 5}, {MAX, MIN, MAX}};
        for (int[] w : bad) {
            due("weighed " + w[0] + " " + w[1] + " " + w[2], x.weighed(w[0], w[1], w[2]), -2);
        }
        long[] want = {90, 100, 3, 285, 256};
        long[] other = {50, 50, 1, 50, 50};
        long[] none = {-8, -8, 0, 0, 0};
        fill(x, 1, 3, 89, 101, -95);
        fill(x, 2, 3);
        for (int what = 0; what < 5; what++) {
            due("weighed " + what, x.weighed(0, 0, what), want[what]);
            due("by the other kind " + what, x.weighed(1, 0, what), other[what]);
            due("takes none " + what, x.weighed(0, 1, what), none[what]);
            due("empty " + what, x.weighed(0, 2, what), none[what]);
        }
        x.terms(1500, 5, 180, 3, 10, 5, 30, 60);
        due("by RATE", x.weighed(0, 0, 4), 384);
        due("nothing is taken", x.vault(0, 0), 0);
    }

    private static void loan() {
        CityBank x = bank(1);
        x.kind(100, 1, 1000);
        bring(x, 0, 100, 101, 102);
        int[][] bad = {{-1, 1, -2}, {2, 1, -2}, {MAX, 1, -2}, {0, 0, -2}, {0, -1, -2}, {0, MIN, -2}, {0, 4, -8}, {0, MAX, -8}, {1, 1, -8}};
        for (int[] l : bad) {
            due("loan " + l[0] + " " + l[1], x.loan(l[0], l[1], 1), l[2]);
        }
        due("no loans", x.count(9), 0);
        due("loan", x.loan(0, 2, 1), 0);
        due("coins", x.vault(0, 0), 1);
        due("weight: 303 - 303 * 2 / 3", x.vault(0, 1), 101);
        due("its book", x.gap(0, 0), 202);
        due("no line", x.count(6), 1);
        due("the rest", x.loan(0, 1, 1), 1);
        due("no weight is left", x.vault(0, 1), 0);
        due("none is left", x.loan(0, 1, 1), -8);
        CityBank y = bank(1);
        bring(y, 0, 1, 1, 1, 1, 1, 1, 1, 1, 1, 1, 1, 1, 1, 1, 1, 1, 1, 1, 1, 1, 5);
        for (int i = 0; i < 20; i++) {
            due("loan " + i, y.loan(0, 1, 0), i);
        }
        // 25 / 21 is 1, cut, as are 16 more; of the 8 that 4 coins weigh then each of three weighs 2
        due("weight left", y.vault(0, 1), 2);
        due("loan 20", y.loan(0, 1, 0), -3);
        due("not so many is told ahead", y.loan(0, 2, 0), -8);
        due("wrong is told ahead", y.loan(0, 0, 0), -2);
    }

    private static void tell() {
        CityBank x = bank(1);
        bring(x, 0, 100);
        due("none such", x.tell(0, 0), false);
        due("loan", x.loan(0, 1, 1 << 31 | 2), 0);
        due("who knew", x.tell(0, 1), false);
        due("31 knew", x.tell(0, 31), false);
        for (int bad : new int[] {-1, 32, MIN, MAX}) {
            due("person " + bad, x.tell(0, bad), false);
            due("loan " + bad, x.tell(bad, 0), false);
        }
        due("loan 1", x.tell(1, 0), false);
        x.close();
        due("0 is told", x.tell(0, 0), true);
        due("30 is told", x.tell(0, 30), true);
        due("0 is told again", x.tell(0, 0), false);
        due("0 knows", x.gap(0, 1), 100);
        due("0 did not know", x.gap(0, 0), 0);
        due("3 does not", x.gap(3, 1), 0);
        x.close();
        due("knows since day 1 all the same", x.gap(0, 1), 100);
    }

    private static void gap() {
        CityBank x = bank(1);
        x.kind(100, 1, 1000);
        bring(x, 0, 100, 100, 100, 100);
        x.close();
        due("loan", x.loan(0, 1, 1), 0);
        x.close();
        x.terms(2000, 5, 180, 3, 10, 5, 30, 60);
        due("loan by another RATE", x.loan(0, 1, -1), 1);
        x.close();
        x.terms(1000, 5, 180, 3, 10, 5, 30, 60);
        long[][] rows = {{0, 0, 0}, {0, 1, 100}, {0, 2, 300}, {0, 3, 300}, {1, 1, 0}, {1, 2, 200}, {31, 2, 200}, {31, 1, 0},
            {-1, 0, -1}, {32, 0, -1}, {0, -1, -1}, {0, 4, -1}, {MAX, 0, -1}, {0, MAX, -1}, {MIN, MIN, -1}};
        for (long[] r : rows) {
            due("gap " + r[0] + " " + r[1], x.gap((int) r[0], (int) r[1]), r[2]);
        }
        due("told", x.tell(0, 31), true);
        due("from now on", x.gap(31, 3), 300);
        due("not ahead", x.gap(31, 2), 200);
    }

    private static void run() {
        CityBank x = bank(2);
        for (long bad : new long[] {0, -1, 1000000001L, Long.MIN_VALUE, Long.MAX_VALUE, (1L << 32) + 1}) {
            due("run " + bad, x.run(bad), -2);
        }
        due("nobody wants anything", x.run(1), -1);
        bring(x, 0, 100, 100, 100);
        due("enough for all", x.run(1), -1);
        due("loan", x.loan(0, 1, 0), 0);
        long[][] rows = {{1, 200}, {199, 2}, {200, 1}, {201, 1}, {100, 2}, {99, 3}, {1000000000L, 1}};
        for (long[] r : rows) {
            due("run " + r[0], x.run(r[0]), r[1]);
        }
        due("wrong", x.run(0), -2);
        due("nothing happens", x.balance(0), 300);
        due("loan of all", x.loan(0, 2, 0), 1);
        due("hour 0", x.run(5), 0);
        // what is worth more by another RATE is enough again
        bring(x, 1, 100);
        x.terms(4000, 5, 180, 3, 10, 5, 30, 60);
        due("just enough", x.run(5), -1);
        x.terms(3999, 5, 180, 3, 10, 5, 30, 60);
        due("just not", x.run(5), 80);
    }

    private static void accountOf() {
        CityBank x = bank(2);
        long[][] rows = {{0, 0, -1}, {0, 1, 0}, {0, 2, -1}, {0, 3, -1}, {0, 4, -2}, {0, -1, -2}, {2, 0, -2}, {-1, 0, -2}, {MAX, 1, -2}, {0, MIN, -2}};
        for (long[] r : rows) {
            due("accountOf " + r[0] + " " + r[1], x.accountOf((int) r[0], (int) r[1]), r[2]);
        }
        bring(x, 1, 1);
        for (int i = 0; i < 8; i++) {
            bring(x, 0, 1);
        }
        due("folio of 1", x.accountOf(1, 0), 0);
        due("folio of 0", x.accountOf(0, 0), 1);
        due("a full one is one", x.accountOf(0, 1), 1);
        bring(x, 0, 1);
        due("folio of 0", x.accountOf(0, 0), 2);
        due("two", x.accountOf(0, 1), 2);
        x.attorney(0, 7, 9);
        due("attorney", x.accountOf(0, 2), 7);
        due("until", x.accountOf(0, 3), 9);
        due("1 has none", x.accountOf(1, 2), -1);
    }

    private static void folio() {
        CityBank x = bank(3);
        for (int i = 0; i < 17; i++) {
            bring(x, 0, 1);
            bring(x, 1, 1);
        }
        int[][] rows = {{0, 0, 0}, {1, 0, 1}, {0, 1, 2}, {1, 1, 3}, {0, 2, 4}, {1, 2, 5}, {0, 3, -1}, {0, -1, -1}, {2, 0, -1},
            {3, 0, -1}, {-1, 0, -1}, {0, MAX, -1}, {0, MIN, -1}, {MAX, 0, -1}};
        for (int[] r : rows) {
            due("folio " + r[0] + " " + r[1], x.folio(r[0], r[1]), r[2]);
        }
        due("folios", x.count(7), 6);
        due("the eighth line", x.line(14, 2), 0);
        due("the ninth", x.line(16, 2), 2);
    }

    private static void balance() {
        CityBank x = bank(2);
        bring(x, 1, 70, 7);
        due("balance 0", x.balance(0), 0);
        due("balance 1", x.balance(1), 77);
        for (int bad : new int[] {-1, 2, 24, MIN, MAX}) {
            due("balance " + bad, x.balance(bad), 0);
        }
        today(x, 1, 0, 70);
        due("not yet", x.balance(0), 0);
        x.close();
        due("balance 0", x.balance(0), 70);
        due("balance 1", x.balance(1), 7);
    }

    private static void written() {
        CityBank x = bank(3);
        bring(x, 0, 1000);
        due("written", x.written(0), 1000);
        due("prolong", x.prolong(0), 5);
        due("written", x.written(0), 995);
        today(x, 0, 1, 100);
        x.slip(0, 3, 2);
        due("order", x.order(0, 1, 896, 6, 0), 1);
        x.close();
        due("a fine of 26", x.written(0), 995 - 100 - 26);
        due("what slipped", x.written(1), 0);
        due("where to", x.written(2), 100);
        for (int bad : new int[] {-1, 3, MIN, MAX}) {
            due("written " + bad, x.written(bad), 0);
        }
    }

    private static void line() {
        CityBank x = bank(2);
        x.close();
        bring(x, 0, 1000);
        x.close();
        today(x, 0, 1, 5);
        x.close();
        int[][] rows = {{1, 0, 0, 1, -1}, {2, 0, 0, 0, 0}, {2, 1, 1, 1, 0}};
        for (int line = 0; line < 3; line++) {
            for (int what = 0; what < 5; what++) {
                due("line " + line + " " + what, x.line(line, what), rows[line][what]);
            }
        }
        int[][] bad = {{3, 0}, {-1, 0}, {0, 5}, {0, -1}, {MAX, 0}, {MIN, 0}, {0, MAX}};
        for (int[] b : bad) {
            due("line " + b[0] + " " + b[1], x.line(b[0], b[1]), -2);
        }
    }

    private static void lineSum() {
        CityBank x = bank(2);
        bring(x, 0, 1000, 24);
        today(x, 0, 1, 5);
        x.close();
        long[] want = {1024, 5, 5};
        for (int i = 0; i < 3; i++) {
            due("lineSum " + i, x.lineSum(i), want[i]);
        }
        for (int bad : new int[] {-1, 3, MIN, MAX}) {
            due("lineSum " + bad, x.lineSum(bad), 0);
        }
    }

    private static void orderOf() {
        CityBank x = bank(3);
        bring(x, 0, 1000);
        due("order", x.order(0, 2, 10, 7, 0), 0);
        due("order", x.order(2, 1, 1000, 13, 2), 1);
        due("order", x.order(0, 1, 10, 13, 1), 2);
        x.slip(0, 1, 0);
        int[][] ahead = {{0, 2, 0, 7, 0, 1, 0}, {2, 1, 1, 13, 0, -1, 0}, {0, 1, 1, 13, 0, -1, 0}};
        int[][] behind = {{0, 2, 0, 7, 1, 1, 1}, {2, 1, 1, 13, 3, -1, 0}, {0, 1, 1, 13, 2, -1, 0}};
        ordersAre(x, ahead);
        x.close();
        x.close();
        due("mend", x.mend(0), true);
        ordersAre(x, behind);
        int[][] bad = {{3, 0}, {-1, 0}, {0, 7}, {0, -1}, {MAX, 0}, {MIN, 0}, {0, MIN}};
        for (int[] b : bad) {
            due("orderOf " + b[0] + " " + b[1], x.orderOf(b[0], b[1]), -2);
        }
    }

    private static void ordersAre(CityBank x, int[][] rows) {
        for (int order = 0; order < rows.length; order++) {
            for (int what = 0; what < 7; what++) {
                due("orderOf " + order + " " + what, x.orderOf(order, what), rows[order][what]);
            }
        }
    }

    private static void receipt() {
        CityBank x = bank(2);
        x.kind(100, 10, 500);
        x.terms(1000, 5, 4, 3, 10, 5, 30, 60);
        x.close();
        fill(x, 0, 0, 10, 9, 100);
        due("take", x.take(1, 1, 0), 2);
        bring(x, 0, 7);
        due("redeem", x.redeem(1), 7);
        int[][] rows = {{1, 1, 2, 110, 5, 0}, {0, 0, 1, 7, 5, 1}};
        for (int receipt = 0; receipt < 2; receipt++) {
            for (int what = 0; what < 6; what++) {
                due("receipt " + receipt + " " + what, x.receipt(receipt, what), rows[receipt][what]);
            }
        }
        int[][] bad = {{2, 0}, {-1, 0}, {0, 6}, {0, -1}, {MAX, 0}, {MIN, 0}, {0, MAX}};
        for (int[] b : bad) {
            due("receipt " + b[0] + " " + b[1], x.receipt(b[0], b[1]), -2);
        }
        pass(x, 4);
        due("open up to the day when it is due", x.receipt(0, 5), 0);
        x.close();
        due("lapsed", x.receipt(0, 5), 2);
    }

    private static void book() {
        CityBank x = new CityBank();
        x.account();
        x.kind(100, 1, 333);
        fill(x, 0, 0, 10, 20);
        due("take", x.take(0, 0, 0), 2);
        due("30 * 333 / 1000", x.book(0), 9);
        x.terms(2500, 5, 4, 3, 10, 5, 30, 60);
        due("take", x.take(0, 0, 0), 2);
        due("9 * 2500 / 1000", x.book(1), 22);
        due("as it came", x.book(0), 9);
        due("redeem", x.redeem(1), 22);
        due("of one that is gone", x.book(1), 22);
        for (int bad : new int[] {-1, 2, MIN, MAX}) {
            due("book " + bad, x.book(bad), 0);
        }
    }

    private static void vault() {
        CityBank x = bank(1);
        x.kind(100, 1, 333);
        bring(x, 0, 10);
        fill(x, 0, 0, 10, 20);
        due("take", x.take(0, 1, 0), 2);
        due("take", x.take(0, 1, 0), 2);
        long[][] rows = {{0, 0, 1}, {0, 1, 10}, {0, 2, 10}, {1, 0, 4}, {1, 1, 60}, {1, 2, 19}, {0, 3, -1}, {0, -1, -1},
            {2, 0, -1}, {-1, 0, -1}, {MAX, 0, -1}, {0, MIN, -1}};
        for (long[] r : rows) {
            due("vault " + r[0] + " " + r[1], x.vault((int) r[0], (int) r[1]), r[2]);
        }
        x.terms(2500, 5, 4, 3, 10, 5, 30, 60);
        due("by RATE", x.vault(1, 2), 47);
    }

    private static void count() {
        CityBank x = bank(3);
        x.kind(100, 1, 333);
        bring(x, 0, 1000);
        bring(x, 1, 1000);
        today(x, 0, 1, 10);
        x.close();
        today(x, 0, 1, 10);
        x.bill(0, 2, 10, 9);
        x.row(0, 0, 0);
        x.loan(0, 1, 0);
        // 10 * (10 - 2000) / 3010 is -6: STEP 5 less
        int[] want = {1, 2, 3, 3, 2, 2, 4, 2, 35, 1, 2};
        for (int what = 0; what <= 10; what++) {
            due("count " + what, x.count(what), want[what]);
        }
        for (int bad : new int[] {-1, 11, MIN, MAX}) {
            due("count " + bad, x.count(bad), -1);
        }
        x.tear(3);
        due("slots", x.count(10), 1);
    }

    private static void sum() {
        CityBank x = bank(2);
        x.kind(100, 1, 333);
        x.account();
        bring(x, 0, 1000);
        fill(x, 0, 0, 10, 20);
        due("take", x.take(1, 1, 0), 2);
        due("take", x.take(1, 1, 0), 2);
        due("fee", x.prolong(0), 5);
        today(x, 1, 0, 500);
        x.close();
        // 9 and 9 in the books, but 60 * 333 / 1000 = 19 in the vault; a fine of 15
        due("balances", x.sum(0), 1000 - 5 + 18 - 15);
        due("vault", x.sum(1), 1019);
        due("fees and fines", x.sum(2), 20);
        x.terms(1000, 5, 180, 3, 10, 5, 50, 60);
        x.close();
        due("bought", x.sum(4), 50 - x.count(8) + 15);
        x.terms(1000, 5, 180, 3, 10, 5, 30, 40);
        x.close();
        due("sold", x.sum(3), 10);
        for (int bad : new int[] {-1, 5, MIN, MAX}) {
            due("sum " + bad, x.sum(bad), 0);
        }
    }

    private static void row() {
        CityBank x = bank(1);
        int[][] bad = {{-1, 0, 5, -2}, {4, 0, 5, -2}, {0, -1, 5, -2}, {0, 4, 5, -2}, {0, 0, 61, -2}, {0, 0, MAX, -2}, {0, 0, -1, -3},
            {0, 0, MIN, -3}, {4, 0, -1, -2}, {0, 4, -1, -2}, {MAX, MIN, 5, -2}};
        for (int[] r : bad) {
            due("row " + r[0] + " " + r[1] + " " + r[2], x.row(r[0], r[1], r[2]), r[3]);
        }
        due("none", x.count(10), 0);
        for (int width = 0; width < 4; width++) {
            due("row", x.row(width, width, 60), 0);
            due("last number", x.write(width, 59, 5), 0);
            due("behind it", x.write(width, 60, 5), -6);
            due("the others are 0", x.weighed(0, width, 2), 1);
        }
        due("below 0", x.row(0, 0, -1), -3);
        due("too many", x.row(0, 0, 61), -2);
        due("the slot stays", x.weighed(0, 0, 3), 5);
        due("in place of it", x.row(0, 2, 60), 0);
        due("all are 0", x.weighed(0, 0, 2), 0);
        due("of its width", x.write(0, 0, 100000), 0);
        due("a longer one", x.weighed(0, 0, 3), 100000);
        due("a row of none", x.row(0, 0, 0), 0);
        due("has no number", x.write(0, 0, 5), -6);
        due("is a row", x.count(10), 4);
    }

    private static void tear() {
        CityBank x = bank(1);
        for (int bad : new int[] {-1, 4, 0, MIN, MAX}) {
            due("tear " + bad, x.tear(bad), false);
        }
        fill(x, 0, 0, 5);
        fill(x, 3, 0, 5);
        due("tear", x.tear(0), true);
        due("again", x.tear(0), false);
        due("has nothing", x.write(0, 0, 5), -5);
        due("has nothing", x.weighed(0, 0, 2), -5);
        due("the other has", x.weighed(0, 3, 2), 1);
        due("row", x.row(0, 0, 1), 0);
        due("what was there is gone", x.weighed(0, 0, 2), 0);
        due("an empty row", x.row(1, 0, 0), 0);
        due("is torn too", x.tear(1), true);
    }

    private static void write() {
        CityBank x = bank(1);
        due("nothing there", x.write(0, 0, 5), -5);
        due("nothing there", x.write(0, -1, 5), -5);
        x.row(0, 1, 3);
        int[][] bad = {{-1, 0, -2}, {4, 0, -2}, {MAX, 0, -2}, {0, -1, -6}, {0, 3, -6}, {0, MIN, -6}, {0, MAX, -6}, {1, 9, -5}};
        for (int[] w : bad) {
            due("write " + w[0] + " " + w[1], x.write(w[0], w[1], 5), w[2]);
        }
        due("nothing was written", x.weighed(0, 0, 2), 0);
        for (int i = 0; i < 3; i++) {
            due("write", x.write(0, i, 10 + i), 0);
        }
        due("all three", x.weighed(0, 0, 3), 33);
        due("least", x.weighed(0, 0, 0), 10);
        due("over it", x.write(0, 0, 65536L + 20), 0);
        due("cut", x.weighed(0, 0, 1), 20);
        due("cut to below 0", x.write(0, 0, 65535L), 0);
        due("is not taken", x.weighed(0, 0, 2), 2);
        due("the lowest", x.write(0, 0, Long.MIN_VALUE), 0);
        due("is 0", x.weighed(0, 0, 2), 2);
    }

    private static void paste() {
        CityBank x = bank(1);
        fill(x, 0, 1, 1, 2, 3, 4, 5);
        fill(x, 1, 1, 0, 0, 0);
        fill(x, 2, 2, 0, 0, 0);
        int[][] bad = {{-1, 0, 1, 0, 1, -2}, {4, 0, 1, 0, 1, -2}, {0, 0, -1, 0, 1, -2}, {0, 0, 4, 0, 1, -2}, {4, 0, 3, 0, 1, -2},
            {3, 0, 0, 0, 1, -5}, {0, 0, 3, 0, 1, -5}, {3, -1, 3, 0, 1, -5}, {0, 0, 2, 0, 1, -7}, {2, -1, 0, 0, 1, -7},
            {0, -1, 1, 0, 1, -6}, {0, 0, 1, -1, 1, -6}, {0, 0, 1, 0, -1, -6}, {0, 3, 1, 0, 3, -6}, {0, 0, 1, 1, 3, -6},
            {0, 0, 1, 0, 4, -6}, {1, 0, 0, 0, 4, -6}, {0, 1, 1, 0, MAX, -6}, {0, MAX, 1, 0, 1, -6}, {0, 0, 1, MAX, 1, -6},
            {0, MAX, 1, MAX, MAX, -6}, {0, MIN, 1, 0, MIN, -6}, {0, 6, 1, 0, 0, -6}, {0, 0, 1, 4, 0, -6}};
        for (int[] p : bad) {
            due("paste " + java.util.Arrays.toString(p), x.paste(p[0], p[1], p[2], p[3], p[4]), p[5]);
        }
        due("nothing happened", x.weighed(0, 1, 2), 0);
        due("none, at the ends", x.paste(0, 5, 1, 3, 0), 0);
        due("paste", x.paste(0, 2, 1, 1, 2), 0);
        due("two came", x.weighed(0, 1, 2), 2);
        due("3 and 4", x.weighed(0, 1, 3), 7);
        due("from where they stay", x.weighed(0, 0, 3), 15);
        due("number 0 is as it was", x.write(1, 1, 0), 0);
        due("4 is number 2", x.weighed(0, 1, 3), 4);
        due("to its own, upwards", x.paste(0, 0, 0, 1, 4), 0);
        due("1 1 2 3 4", x.weighed(0, 0, 3), 11);
        fill(x, 0, 1, 1, 2, 3, 4, 5);
        due("to its own, downwards", x.paste(0, 1, 0, 0, 4), 0);
        due("2 3 4 5 5", x.weighed(0, 0, 3), 19);
        due("all of it", x.paste(0, 0, 0, 0, 5), 0);
        due("as it was", x.weighed(0, 0, 3), 19);
    }
}
