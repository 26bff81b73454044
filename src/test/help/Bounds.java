import java.lang.reflect.InvocationTargetException;
import java.lang.reflect.Method;
import java.lang.reflect.Modifier;
import java.util.Arrays;
import java.util.Comparator;
import java.util.function.BooleanSupplier;
import java.util.function.LongSupplier;

/**
 * What the tests of boundaries share: how they are run and judged, and the banks that they begin with.
 * Some of them make more than the 512 calls that the document promises, for its last DAY and its last LINE
 * can't be reached by less, and for looking at all that a bank shows is many calls.
 */
abstract class Bounds {
    static final int MIN = Integer.MIN_VALUE;
    static final int MAX = Integer.MAX_VALUE;
    static final long GREATEST_SUM = 1000000000L;

    private static int wrong = 0;
    private static String test = "";

    Bounds() {
    }

    // ---- how tests are run and judged

    /** Runs each static method of a class that has no parameters and no answer, so that none can be forgotten. */
    static void runAll(Class<?> tests) {
        Method[] methods = tests.getDeclaredMethods();
        Arrays.sort(methods, Comparator.comparing(Method::getName));
        int ran = 0;
        for (Method method : methods) {
            if (isTest(method)) {
                run(method);
                ran++;
            }
        }
        System.out.println(wrong == 0 ? ran + " boundaries hold" : wrong + " answers are not as due");
        if (wrong != 0 || ran == 0) {
            System.exit(1);
        }
    }

    private static boolean isTest(Method method) {
        return Modifier.isStatic(method.getModifiers()) && method.getParameterCount() == 0
                && method.getReturnType() == void.class && !method.isSynthetic();
    }

    private static void run(Method method) {
        test = method.getName();
        try {
            method.invoke(null);
        } catch (InvocationTargetException thrown) {
            fault("threw " + thrown.getCause());
        } catch (IllegalAccessException hidden) {
            fault("can't be run: it is private");
        }
    }

    private static void fault(String what) {
        wrong++;
        System.out.println(test + ": " + what);
    }

    static void due(String call, long got, long want) {
        if (got != want) {
            fault(call + " answered " + got + ", due is " + want);
        }
    }

    static void due(String call, boolean got, boolean want) {
        if (got != want) {
            fault(call + " answered " + got + ", due is " + want);
        }
    }

    static void same(String what, String got, String want) {
        if (!got.equals(want)) {
            fault(what + ": " + got + ", due is " + want);
        }
    }

    /** A call that is refused: its answer, and that all the bank shows is as it was. */
    static void refused(CityBank x, String call, LongSupplier answer, long want) {
        String before = state(x);
        due(call, answer.getAsLong(), want);
        same("the bank behind " + call, state(x), before);
    }

    static void refused(CityBank x, String call, BooleanSupplier answer) {
        refused(x, call, () -> answer.getAsBoolean() ? 1 : 0, 0);
    }

    // ---- all that a bank shows

    static String state(CityBank x) {
        StringBuilder shown = new StringBuilder();
        for (int what = 0; what <= 10; what++) {
            show(shown, "count", x.count(what));
        }
        for (int what = 0; what <= 4; what++) {
            show(shown, "sum", x.sum(what));
        }
        accounts(x, shown);
        ordersAndReceipts(x, shown);
        lines(x, shown);
        vaultAndSlots(x, shown);
        for (int person = 0; person < 32; person++) {
            show(shown, "gap", x.gap(person, x.count(0)));
        }
        for (int i = 0; i < 600; i++) {
            show(shown, "suspect", x.suspect(i, 0));
            show(shown, "how", x.suspect(i, 1));
        }
        return shown.toString();
    }

    private static void show(StringBuilder shown, String what, long number) {
        shown.append(what).append(' ').append(number).append(' ');
    }

    private static void accounts(CityBank x, StringBuilder shown) {
        for (int account = 0; account < x.count(2); account++) {
            show(shown, "balance", x.balance(account));
            show(shown, "written", x.written(account));
            for (int what = 0; what <= 3; what++) {
                show(shown, "accountOf", x.accountOf(account, what));
            }
            for (int k = 0; k < x.accountOf(account, 1); k++) {
                show(shown, "folio", x.folio(account, k));
            }
        }
    }

    private static void ordersAndReceipts(CityBank x, StringBuilder shown) {
        for (int order = 0; order < x.count(3); order++) {
            for (int what = 0; what <= 6; what++) {
                show(shown, "orderOf", x.orderOf(order, what));
            }
        }
        for (int receipt = 0; receipt < x.count(5); receipt++) {
            for (int what = 0; what <= 5; what++) {
                show(shown, "receipt", x.receipt(receipt, what));
            }
            show(shown, "book", x.book(receipt));
        }
    }

    private static void lines(CityBank x, StringBuilder shown) {
        for (int line = 0; line < x.count(6); line++) {
            for (int what = 0; what <= 4; what++) {
                show(shown, "line", x.line(line, what));
            }
            show(shown, "lineSum", x.lineSum(line));
        }
    }

    private static void vaultAndSlots(CityBank x, StringBuilder shown) {
        for (int kind = 0; kind < x.count(1); kind++) {
            for (int what = 0; what <= 2; what++) {
                show(shown, "vault", x.vault(kind, what));
            }
            for (int slot = 0; slot < 4; slot++) {
                for (int what = 0; what <= 4; what++) {
                    show(shown, "weighed", x.weighed(kind, slot, what));
                }
            }
        }
    }

    // ---- banks to begin with

    /** So many accounts, and kind 0 of pure coin of any weight up to 100000. */
    static CityBank bank(int accounts) {
        CityBank x = new CityBank();
        due("kind", x.kind(100000, 1, 1000), 0);
        for (int i = 0; i < accounts; i++) {
            due("account", x.account(), i);
        }
        return x;
    }

    /** A bank whose account 0 has 1200000000, more than the greatest sum; FEE and FINE are 0. */
    static CityBank richBank(int accounts) {
        CityBank x = bank(accounts);
        due("terms", x.terms(100000, 0, 180, 0, 10, 5, 30, 60), 0);
        long[] coins = new long[60];
        Arrays.fill(coins, 100000L);
        bring(x, 0, coins);
        due("take", x.take(0, 0, 3), 60);
        due("balance", x.balance(0), 1200000000L);
        return x;
    }

    /** A bank of two accounts with so many lines; receipt 0 is of 1000 with a FEE of 1, slot 3 has one coin. */
    static CityBank bankOfLines(int lines) {
        CityBank x = bank(2);
        x.terms(1000, 1, 1000, 3, 10, 5, 30, 60);
        bring(x, 0, 1000);
        bring(x, 0, 100000);
        for (int i = 2; i < lines; i++) {
            x.prolong(0);
        }
        due("lines", x.count(6), lines);
        return x;
    }

    /** A bank whose account 0 has so much; the day on which it came is closed, and AGIO is 40 still. */
    static CityBank settledBank(int accounts, long weight) {
        CityBank x = bank(accounts);
        x.terms(1000, 5, 180, 3, 0, 5, 30, 60);
        bring(x, 0, weight);
        due("close", x.close(), 0);
        due("AGIO", x.count(8), 40);
        return x;
    }

    static void fill(CityBank x, int slot, int width, long... numbers) {
        due("row", x.row(slot, width, numbers.length), 0);
        for (int i = 0; i < numbers.length; i++) {
            due("write", x.write(slot, i, numbers[i]), 0);
        }
    }

    /** Coins of kind 0 to an account, by way of slot 3. */
    static void bring(CityBank x, int account, long... coins) {
        fill(x, 3, 3, coins);
        due("take of " + coins.length, x.take(account, 0, 3), coins.length);
    }

    static void pass(CityBank x, int days) {
        for (int i = 0; i < days; i++) {
            x.close();
        }
    }

    /** An order of this day, at hour 5, signed by the holder. */
    static int today(CityBank x, int from, int to, long sum) {
        return x.order(from, to, sum, 5, from);
    }

    static int termsOf(CityBank x, int[] t) {
        return x.terms(t[0], t[1], t[2], t[3], t[4], t[5], t[6], t[7]);
    }

    /** The terms that a new bank has, but for one. */
    static int[] firstTermsBut(int which, int value) {
        int[] t = {1000, 5, 180, 3, 10, 5, 30, 60};
        t[which] = value;
        return t;
    }
}
