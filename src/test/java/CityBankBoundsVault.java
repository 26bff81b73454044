/** The boundary sentences of promises 18 to 21 (loans, who knows of them, and a run), a test for each. */
public final class CityBankBoundsVault extends Bounds {
    private CityBankBoundsVault() {
    }

    public static void main(String[] args) {
        runAll(CityBankBoundsVault.class);
    }

    // ---- promise 18: loan

    // Promise 18: "n coins of a KIND (1 and more)", and "-2: ... n is below 1"
    static void loanIsOf1CoinAndMore() {
        CityBank x = bank(1);
        bring(x, 0, 100, 100, 100);
        for (int n : new int[] {0, -1, MIN}) {
            refused(x, "loan of " + n, () -> x.loan(0, n, 1), -2);
        }
        due("loan of 1", x.loan(0, 1, 1), 0);
        due("coins", x.vault(0, 0), 2);
        due("loan of 2", x.loan(0, 2, 1), 1);
        due("coins", x.vault(0, 0), 0);
    }

    // Promise 18: "known to a set of persons (0 .. 31)"
    static void loanIsKnownToASet() {
        int[] sets = {0, 1, 1 << 31, 1 | 1 << 31, 1 << 15, -1, MAX, MIN};
        for (int set : sets) {
            CityBank x = bank(1);
            bring(x, 0, 100);
            due("loan", x.loan(0, 1, set), 0);
            for (int person = 0; person <= 31; person++) {
                due("gap of " + person + " of the set " + set, x.gap(person, 0), (set >>> person & 1) == 1 ? 100 : 0);
            }
        }
    }

    // Promise 18: "-2: there is no such KIND"
    static void loanRefusesAKind() {
        CityBank x = bank(1);
        x.kind(100, 1, 1000);
        bring(x, 0, 100);
        fill(x, 0, 3, 100);
        x.take(0, 1, 0);
        for (int kind : new int[] {-1, 2, MIN, MAX}) {
            refused(x, "loan of KIND " + kind, () -> x.loan(kind, 1, 1), -2);
        }
        due("loan of KIND 0", x.loan(0, 1, 1), 0);
        due("loan of KIND 1", x.loan(1, 1, 1), 1);
    }

    // Promise 18: "-8: there are not so many"
    static void loanRefusesMoreThanThereAre() {
        CityBank x = bank(1);
        refused(x, "loan of 1 of none", () -> x.loan(0, 1, 1), -8);
        bring(x, 0, 100, 100);
        refused(x, "loan of 3 of 2", () -> x.loan(0, 3, 1), -8);
        refused(x, "loan of the most", () -> x.loan(0, MAX, 1), -8);
        due("loan of 2 of 2", x.loan(0, 2, 1), 0);
        refused(x, "loan of 1 of none", () -> x.loan(0, 1, 1), -8);
    }

    // Promise 18: "-3: there are 20."
    static void loanRefusesA21st() {
        CityBank x = bank(1);
        bring(x, 0, 1, 1, 1, 1, 1, 1, 1, 1, 1, 1, 1, 1, 1, 1, 1, 1, 1, 1, 1, 1, 1, 1);
        for (int loan = 0; loan < 19; loan++) {
            x.loan(0, 1, 0);
        }
        due("the 20th", x.loan(0, 1, 0), 19);
        refused(x, "the 21st", () -> x.loan(0, 1, 0), -3);
        refused(x, "the 21st, of more than there are", () -> x.loan(0, 3, 0), -8);
        refused(x, "the 21st, not as told", () -> x.loan(0, 0, 0), -2);
    }

    // ---- promise 19: tell

    /** A bank with LOANS 0 (known to 1) and 1 (to 30), each of 100, on DAY 1. */
    private static CityBank bankOfLoans() {
        CityBank x = bank(1);
        bring(x, 0, 100, 100, 100);
        due("loan", x.loan(0, 1, 1 << 1), 0);
        due("loan", x.loan(0, 1, 1 << 30), 1);
        x.close();
        return x;
    }

    // Promise 19: "A person (0 .. 31) knows of a LOAN from now on: true."
    static void tellIsToPersons0To31() {
        CityBank x = bankOfLoans();
        for (int person : new int[] {-1, 32, MIN, MAX}) {
            refused(x, "tell to " + person, () -> x.tell(0, person));
        }
        for (int person : new int[] {0, 31}) {
            due("tell to " + person, x.tell(0, person), true);
            due("from now on", x.gap(person, 1), 100);
            due("not ahead", x.gap(person, 0), 0);
        }
    }

    // Promise 19: "False: there is none such"
    static void tellRefusesALoan() {
        CityBank x = bankOfLoans();
        for (int loan : new int[] {-1, 2, MIN, MAX}) {
            refused(x, "tell of " + loan, () -> x.tell(loan, 5));
        }
        due("tell of 0", x.tell(0, 5), true);
        due("tell of 1", x.tell(1, 5), true);
        due("gap", x.gap(5, 1), 200);
    }

    // Promise 19: "or that one knew."
    static void tellRefusesWhoKnew() {
        CityBank x = bankOfLoans();
        refused(x, "who knew from the beginning", () -> x.tell(0, 1));
        due("who knew of another", x.tell(1, 1), true);
        refused(x, "who was told", () -> x.tell(1, 1));
        x.close();
        refused(x, "who was told on another DAY", () -> x.tell(1, 1));
        due("since then, not since now", x.gap(1, 1), 200);
    }

    // ---- promise 20: gap

    // Promise 20: "the BOOKS of LOANS made by then of which that one knew by then, together."
    static void gapIsOfLoansKnownByThen() {
        CityBank x = bank(1);
        bring(x, 0, 100, 100, 100);
        due("loan on DAY 0", x.loan(0, 1, 1), 0);
        x.close();
        due("loan on DAY 1", x.loan(0, 1, 1), 1);
        x.close();
        due("loan on DAY 2", x.loan(0, 1, 2), 2);
        due("tell on DAY 2", x.tell(0, 1), true);
        long[][] gaps = {{100, 200, 200}, {0, 0, 200}, {0, 0, 0}};
        for (int person = 0; person < 3; person++) {
            for (int day = 0; day < 3; day++) {
                due("gap of " + person + " on DAY " + day, x.gap(person, day), gaps[person][day]);
            }
        }
    }

    // Promise 20: "NONE: there is no such person"
    static void gapRefusesAPerson() {
        CityBank x = bankOfLoans();
        for (int person : new int[] {-1, 32, MIN, MAX}) {
            due("gap of " + person, x.gap(person, 1), -1);
        }
        due("gap of 0", x.gap(0, 1), 0);
        due("gap of 31", x.gap(31, 1), 0);
        due("gap of 30", x.gap(30, 1), 100);
    }

    // Promise 20: "DAY (at most this one)."
    static void gapRefusesADay() {
        CityBank x = bankOfLoans();
        for (int day : new int[] {-1, 2, MIN, MAX}) {
            due("gap on DAY " + day, x.gap(1, day), -1);
        }
        due("gap on DAY 0", x.gap(1, 0), 100);
        due("gap on this DAY", x.gap(1, 1), 100);
    }

    // ---- promise 21: run

    /** Books of 300, and 200 in the VAULT. */
    private static CityBank bankShortOf100() {
        CityBank x = bank(1);
        bring(x, 0, 100, 100, 100);
        due("loan", x.loan(0, 1, 0), 0);
        return x;
    }

    // Promise 21: "so much (1 .. 1000000000) is paid in an hour", and "-2: another sum."
    static void runIsOf1To1000000000AnHour() {
        CityBank x = bankShortOf100();
        for (long hourly : new long[] {0, -1, GREATEST_SUM + 1, (1L << 32) + 1, Long.MIN_VALUE, Long.MAX_VALUE}) {
            refused(x, "run of " + hourly, () -> x.run(hourly), -2);
        }
        due("run of 1", x.run(1), 200);
        due("run of the most", x.run(GREATEST_SUM), 1);
        due("another sum is told ahead of NONE", bank(1).run(0), -2);
    }

    // Promise 21: "(its BOOK by what is paid in an hour, rounded up)"
    static void runIsRoundedUp() {
        CityBank x = bankShortOf100();
        int[][] hours = {{1, 200}, {2, 100}, {66, 4}, {67, 3}, {99, 3}, {100, 2}, {101, 2}, {199, 2}, {200, 1}, {201, 1}};
        for (int[] h : hours) {
            refused(x, "run of " + h[0], () -> x.run(h[0]), h[1]);
        }
    }

    // Promise 21: "in which hour (from 0 on) the VAULT has nothing left to pay with as it begins"
    static void runOfAnEmptyVaultIsHour0() {
        CityBank x = bankShortOf100();
        due("loan of all that is left", x.loan(0, 2, 0), 1);
        due("run", x.run(1), 0);
        due("run of the most", x.run(GREATEST_SUM), 0);
        bring(x, 0, 1);
        due("run with 1 in the VAULT", x.run(1), 1);
    }

    // Promise 21: "NONE: it has enough for all"
    static void runIsNoneIfThereIsEnough() {
        CityBank x = bank(1);
        due("of nothing nothing is wanted", x.run(1), -1);
        x.kind(100, 1, 1000);
        bring(x, 0, 100);
        fill(x, 0, 3, 1);
        due("take of a coin of 1", x.take(0, 1, 0), 1);
        due("just enough", x.run(1), -1);
        due("loan of that coin", x.loan(1, 1, 0), 0);
        due("1 less", x.run(100), 1);
        due("prolong, for a FEE of 0", x.prolong(0), 0);
        x.terms(1010, 5, 180, 3, 10, 5, 30, 60);
        due("just enough by another RATE", x.run(100), -1);
        x.terms(1009, 5, 180, 3, 10, 5, 30, 60);
        due("1 less", x.run(100), 1);
        x.terms(1000, 10, 180, 3, 10, 5, 30, 60);
        due("prolong, for a FEE of 1", x.prolong(0), 1);
        due("what is wanted is 1 less too", x.run(100), -1);
    }

    // Promise 21, the same sentence: also if it has more than that
    static void runIsNoneIfThereIsMoreThanEnough() {
        CityBank x = bank(2);
        bring(x, 0, 1000);
        due("prolong, for a FEE of 5", x.prolong(0), 5);
        due("995 are wanted of 1000", x.run(10), -1);
        x.terms(1001, 5, 180, 3, 10, 5, 30, 60);
        due("of 1001", x.run(10), -1);
        x.terms(995, 5, 180, 3, 10, 5, 30, 60);
        due("of 995", x.run(10), -1);
        x.terms(994, 5, 180, 3, 10, 5, 30, 60);
        due("of 994", x.run(10), 100);
    }

    private static CityBank bankOfWrongBooks(int place, long written) {
        CityBank x = bank(2);
        bring(x, 0, 1000);
        today(x, 0, 1, 100);
        x.slip(0, 2, place);
        due("close", x.close(), 1);
        due("written of both", x.written(0) + x.written(1), written);
        return x;
    }

    // Promise 21: "all want coin for what they have": by their BALANCES, not by what clerks wrote
    static void runIsOfBalances() {
        CityBank less = bankOfWrongBooks(1, 900 + 10);
        less.terms(950, 5, 180, 3, 10, 5, 30, 60);
        due("1000 are wanted of 950, 910 are written", less.run(10), 95);
        CityBank more = bankOfWrongBooks(2, 900 + 1000);
        due("1000 are wanted of 1000, 1900 are written", more.run(10), -1);
    }
}
