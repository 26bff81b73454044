import java.util.Random;

/**
 * Runs of calls by chance (the same ones each time): none throws, two objects that are called alike answer
 * alike, and what the document says of the whole holds behind each run.
 */
public final class CityBankManyRuns {
    private static final int RUNS = 1500;
    private static final int[] EDGES = {Integer.MIN_VALUE, Integer.MAX_VALUE, -2, -1, 60, 61, 99, 100, 5000, 5001};
    private static int wrong = 0;
    private static int run = 0;

    private CityBankManyRuns() {
    }

    private static void due(String what, long got, long want) {
        if (got != want && wrong++ < 20) {
            System.out.println("run " + run + ": " + what + " is " + got + ", due is " + want);
        }
    }

    public static void main(String[] args) {
        for (run = 0; run < RUNS; run++) {
            // some runs go far beyond the calls that an object is made for: it must not throw there either
            int calls = run % 50 == 0 ? 6000 : 512;
            oneRun(new Random(run), calls);
        }
        System.out.println(wrong == 0 ? RUNS + " runs are as due" : wrong + " answers are not as due");
        if (wrong != 0) {
            System.exit(1);
        }
    }

    private static void oneRun(Random chance, int calls) {
        CityBank x = new CityBank();
        CityBank y = new CityBank();
        int wild = chance.nextInt(4) == 0 ? 3 : 25;
        for (int i = 0; i < calls; i++) {
            int which = i < 30 ? new int[] {1, 2, 2, 30, 32, 4}[i % 6] : chance.nextInt(36);
            long[] a = arguments(chance, which, wild);
            long before = x.count(6);
            due("call " + which + " on another object", call(y, which, a), call(x, which, a));
            due("lines are never less", Math.min(before, x.count(6)), before);
        }
        wholeHolds(x);
    }

    private static int upTo(Random chance, int most) {
        return chance.nextInt(most + 1);
    }

    private static long[] arguments(Random c, int which, int wild) {
        long[] a = likely(c, which);
        for (int i = 0; i < a.length; i++) {
            if (c.nextInt(wild) == 0) {
                a[i] = c.nextInt(3) == 0 ? EDGES[c.nextInt(EDGES.length)] : upTo(c, 30) - 3;
            }
        }
        return a;
    }

    private static long[] likely(Random c, int which) {
        int account = upTo(c, 7);
        int other = upTo(c, 7);
        int slot = upTo(c, 3);
        long sum = (long) Math.pow(10, 1 + c.nextInt(6)) * upTo(c, 99) / 10 + 1;
        switch (which) {
            case 0: return new long[] {900 + upTo(c, 200), upTo(c, 100), 1 + upTo(c, 60), upTo(c, 100), upTo(c, 1000), upTo(c, 100), upTo(c, 60) - 30, 30 + upTo(c, 99)};
            case 1: return new long[] {1000 + upTo(c, 90000), 1 + upTo(c, 500), 1 + upTo(c, 999)};
            case 3: return new long[] {account, upTo(c, 99), upTo(c, 60)};
            case 4: return new long[] {account, upTo(c, 3), slot};
            case 5: case 6: return new long[] {upTo(c, 20)};
            case 7: return new long[] {upTo(c, 20), account};
            case 8: return new long[] {account, other, sum, upTo(c, 23), c.nextInt(6) == 0 ? upTo(c, 99) : account};
            case 9: return new long[] {account, other, sum, upTo(c, 9)};
            case 10: int how = upTo(c, 3); return new long[] {upTo(c, 40), how, how < 2 ? 0 : upTo(c, 8)};
            case 12: case 14: return new long[] {upTo(c, 30)};
            case 15: return new long[] {upTo(c, 3), slot, upTo(c, 4)};
            case 16: return new long[] {upTo(c, 3), 1 + upTo(c, 4), c.nextInt()};
            case 17: return new long[] {upTo(c, 19), upTo(c, 31)};
            case 18: return new long[] {upTo(c, 31), upTo(c, 20)};
            case 19: return new long[] {1 + upTo(c, 100000)};
            case 32: return new long[] {slot, 1 + upTo(c, 2), upTo(c, 8)};
            case 34: case 30: return new long[] {slot, upTo(c, 5), c.nextInt(9) == 0 ? c.nextLong() : upTo(c, 60000)};
            case 35: return new long[] {slot, upTo(c, 5), upTo(c, 3), upTo(c, 5), upTo(c, 5)};
            default: return new long[] {upTo(c, 12), upTo(c, 7)};
        }
    }

    private static int at(long[] a, int i) {
        return i < a.length ? (int) a[i] : 0;
    }

    private static long call(CityBank x, int which, long[] a) {
        int p = at(a, 0);
        int q = at(a, 1);
        int r = at(a, 2);
        long big = a.length > 2 ? a[2] : 0;
        switch (which) {
            case 0: return x.terms(p, q, r, at(a, 3), at(a, 4), at(a, 5), at(a, 6), at(a, 7));
            case 1: return x.kind(p, q, r);
            case 2: return x.account();
            case 3: return x.attorney(p, q, r);
            case 4: return x.take(p, q, r);
            case 5: return x.redeem(p);
            case 6: return x.prolong(p);
            case 7: return x.give(p, q);
            case 8: return x.order(p, q, big, at(a, 3), at(a, 4));
            case 9: return x.bill(p, q, big, at(a, 3));
            case 10: return x.slip(p, q, r);
            case 11: return x.close();
            case 12: return x.suspects(p);
            case 13: return x.suspect(p, q);
            case 14: return x.mend(p) ? 1 : 0;
            case 15: return x.weighed(p, q, r);
            case 16: return x.loan(p, q, r);
            case 17: return x.tell(p, q) ? 1 : 0;
            case 18: return x.gap(p, q);
            case 19: return x.run(a.length > 0 ? a[0] : 0);
            case 20: return x.accountOf(p, q);
            case 21: return x.folio(p, q);
            case 22: return x.balance(p);
            case 23: return x.written(p);
            case 24: return x.line(p, q);
            case 25: return x.lineSum(p);
            case 26: return x.orderOf(p, q);
            case 27: return x.receipt(p, q);
            case 28: return x.book(p);
            case 29: return x.vault(p, q);
            case 31: return x.sum(p);
            case 32: return x.row(p, q, r);
            case 33: return x.tear(p) ? 1 : 0;
            case 30: case 34: return x.write(p, q, big);
            case 35: return x.paste(p, q, r, at(a, 3), at(a, 4));
            default: return x.count(p);
        }
    }

    private static void wholeHolds(CityBank x) {
        due("room", Math.max(0, x.count(6) + 3 * x.count(4) - 2000), 0);
        balancesAreWritten(x);
        foliosAreFilled(x);
        booksBalanceOnceMended(x);
        vaultHasWhatCame(x);
    }

    private static void balancesAreWritten(CityBank x) {
        long all = 0;
        for (int a = 0; a < x.count(2); a++) {
            long lines = 0;
            for (int l = 0; l < x.count(6); l++) {
                if (x.line(l, 1) == a) {
                    lines += x.line(l, 3) == 1 ? x.lineSum(l) : -x.lineSum(l);
                }
            }
            due("written of " + a, x.written(a), lines);
            due("no balance below 0", Math.min(0, x.balance(a)), 0);
            all += x.balance(a);
        }
        due("balances of all", x.sum(0), all);
        long lines = 0;
        for (int l = 0; l < x.count(6); l++) {
            if (x.line(l, 4) == -1) {
                lines += x.line(l, 3) == 1 ? x.lineSum(l) : -x.lineSum(l);
            }
        }
        due("what came and went, orders left out", all, lines);
    }

    private static void foliosAreFilled(CityBank x) {
        int[] filled = new int[x.count(7)];
        for (int l = 0; l < x.count(6); l++) {
            filled[x.line(l, 2)]++;
        }
        int folios = 0;
        for (int a = 0; a < x.count(2); a++) {
            int has = x.accountOf(a, 1);
            folios += has;
            due("the last folio", x.folio(a, has - 1), x.accountOf(a, 0));
            for (int k = 0; k < has; k++) {
                int lines = filled[x.folio(a, k)];
                due("a folio ahead of another is full", k < has - 1 ? lines : 8, 8);
                due("a folio has some lines, eight at most", lines < 1 || lines > 8 ? lines : 1, 1);
            }
        }
        due("folios", x.count(7), folios);
    }

    private static void booksBalanceOnceMended(CityBank x) {
        for (int o = 0; o < x.count(3); o++) {
            boolean slipped = x.orderOf(o, 4) == 1 && x.orderOf(o, 5) != -1 && x.orderOf(o, 6) == 0;
            due("mend of " + o, x.mend(o) ? 1 : 0, slipped ? 1 : 0);
        }
        for (int day = 0; day < x.count(0); day++) {
            due("suspects of " + day, x.suspects(day), -1);
        }
        for (int a = 0; a < x.count(2); a++) {
            due("written, all being mended", x.written(a), x.balance(a));
        }
    }

    private static void vaultHasWhatCame(CityBank x) {
        long book = 0;
        for (int k = 0; k < x.count(1); k++) {
            due("coins not below 0", Math.min(0, x.vault(k, 0)), 0);
            due("weight not below 0", Math.min(0, x.vault(k, 1)), 0);
            book += x.vault(k, 2);
            long came = 0;
            for (int r = 0; r < x.count(5); r++) {
                came += x.receipt(r, 1) == k && x.receipt(r, 5) != 1 ? x.receipt(r, 3) : 0;
            }
            due("weight without loans", x.count(9) == 0 ? x.vault(k, 1) : came, came);
        }
        due("book of the vault", x.sum(1), book);
    }
}
