import java.lang.reflect.InvocationTargetException;
import java.lang.reflect.Method;
import java.util.ArrayList;
import java.util.Arrays;
import java.util.HashMap;
import java.util.List;
import java.util.Map;
import java.util.Random;

/**
 * Runs of at most 512 calls by chance (the same ones each time), each made on the class and on a model that was
 * written from the document's words (src/test/help/Model.java): every answer of the two is the same.
 */
public final class CityBankAgainstModel {
    private static final int RUNS = 1200;
    private static final int CALLS = 512;
    // what a run is about: its calls are chosen among these, one that stands here twice comes twice as often
    private static final String[][] THEMES = {
        {"take", "redeem", "prolong", "give", "loan", "tell", "gap", "run", "vault", "receipt", "book", "terms", "close", "write",
            "weighed", "kind", "sum", "count"},
        {"order", "order", "order", "order", "bill", "slip", "slip", "slip", "close", "suspects", "suspects", "suspect", "suspect",
            "mend", "attorney", "orderOf", "line", "lineSum", "written", "balance", "take"},
        {"order", "bill", "close", "close", "terms", "take", "count", "sum", "redeem", "attorney", "accountOf", "folio", "account",
            "run", "loan", "gap", "tell", "give", "prolong"},
        {"row", "row", "tear", "write", "write", "write", "paste", "paste", "paste", "paste", "weighed", "weighed", "weighed", "take",
            "count"}};
    private static final int[] EDGES = {Integer.MIN_VALUE, Integer.MAX_VALUE, -2, -1, 24, 31, 32, 60, 61, 99, 100, 300, 1000, 1001, 5000,
        5001, 100000, 100001};
    // small sums, so that wholes, halves and nines meet
    private static final long[] SUMS = {1, 2, 3, 5, 6, 9, 10, 11, 12, 18, 19, 20, 21, 27, 36, 45, 50, 54, 90, 91, 99, 100, 123, 180, 900,
        1000, 1001, 10000, 123456, 1000000000L, 1000000001L, 0};

    private static final Map<String, Method> OF_CLASS = methods(CityBank.class);
    private static final Map<String, Method> OF_MODEL = methods(Model.class);
    private static final List<String> ALL = new ArrayList<>(OF_CLASS.keySet());
    private static int wrong = 0;

    private final int number;
    private final Random chance;
    private final int wild;
    private final CityBank bank = new CityBank();
    private final Model model = new Model();

    private CityBankAgainstModel(int number) {
        this.number = number;
        this.chance = new Random(number);
        this.wild = new int[] {4, 20, 60}[number % 3];
    }

    public static void main(String[] args) {
        ALL.sort(null);
        for (int number = 0; number < RUNS; number++) {
            CityBankAgainstModel run = new CityBankAgainstModel(number);
            run.calls();
            run.all();
        }
        System.out.println(wrong == 0 ? RUNS + " runs are as the model's" : wrong + " answers are not as the model's");
        if (wrong != 0) {
            System.exit(1);
        }
    }

    private static Map<String, Method> methods(Class<?> of) {
        Map<String, Method> found = new HashMap<>();
        for (Method method : of.getDeclaredMethods()) {
            boolean face = of == Model.class ? method.getModifiers() == 0 : (method.getModifiers() & 1) == 1;
            // the model has a private suspect() of its own beside the one of the face
            if (face && !method.isSynthetic()) {
                found.put(method.getName(), method);
            }
        }
        return found;
    }

    // ---- a call on both

    private void both(String name, long... a) {
        Class<?>[] types = OF_CLASS.get(name).getParameterTypes();
        Object[] values = new Object[types.length];
        for (int i = 0; i < types.length; i++) {
            if (types[i] == long.class) {
                values[i] = a[i];
            } else {
                values[i] = (int) a[i];
            }
        }
        Object got = answer(OF_CLASS.get(name), bank, values);
        Object want = answer(OF_MODEL.get(name), model, values);
        if (!got.equals(want) && wrong++ < 20) {
            System.out.println("run " + number + ": " + name + Arrays.toString(values) + " answered " + got + ", the model " + want);
        }
    }

    private static Object answer(Method method, Object of, Object[] values) {
        try {
            return method.invoke(of, values);
        } catch (InvocationTargetException thrown) {
            return "threw " + thrown.getCause();
        } catch (IllegalAccessException hidden) {
            return "is hidden";
        }
    }

    // ---- the calls of a run

    private void calls() {
        String[] theme = THEMES[number % THEMES.length];
        for (int i = begin(); i < CALLS; i++) {
            String name = chance.nextInt(8) == 0 ? ALL.get(chance.nextInt(ALL.size())) : theme[chance.nextInt(theme.length)];
            long[] a = likely(name);
            for (int k = 0; k < a.length; k++) {
                if (chance.nextInt(wild) == 0) {
                    a[k] = chance.nextInt(3) == 0 ? EDGES[chance.nextInt(EDGES.length)] : upTo(12) - 3;
                }
            }
            both(name, a);
        }
    }

    /** Two kinds, three accounts of which two have money, and a row in slot 0; how many calls that took. */
    private int begin() {
        both("kind", 100000, 1, 1000);
        both("kind", likely("kind"));
        for (int account = 0; account < 3; account++) {
            both("account");
        }
        both("row", 0, 2, 4);
        for (int i = 0; i < 4; i++) {
            both("write", 0, i, 1 + upTo(number % 2 == 0 ? 500 : 40000));
        }
        both("take", 0, 0, 0);
        both("take", 1, 0, 0);
        return 12;
    }

    private int upTo(int most) {
        return chance.nextInt(Math.max(most, 0) + 1);
    }

    private long[] of(long... a) {
        return a;
    }

    /** One of those that there are, most often a late one, for early ones are gone or done. */
    private int one(int count) {
        return chance.nextInt(3) == 0 ? upTo(count - 1) : Math.max(0, count - 1 - upTo(4));
    }

    /** An order whose slip can be put right, if there is one and chance has it so. */
    private int oneToMend() {
        int order = one(bank.count(3));
        for (int i = 0; i < bank.count(3) && chance.nextInt(20) > 0; i++) {
            if (bank.orderOf(i, 4) == 1 && bank.orderOf(i, 5) != -1 && bank.orderOf(i, 6) == 0) {
                order = i;
            }
        }
        return order;
    }

    private long[] likely(String name) {
        int account = upTo(bank.count(2) - 1);
        int other = upTo(bank.count(2) - 1);
        int kind = upTo(bank.count(1) - 1);
        int slot = chance.nextInt(3) > 0 ? 0 : upTo(3);
        int order = one(bank.count(3));
        int receipt = one(bank.count(5));
        int day = one(bank.count(0));
        switch (name) {
            case "terms": return likelyTerms();
            case "kind": int full = 1 + upTo(chance.nextBoolean() ? 200 : 99999);
                return of(full, 1 + upTo(Math.min(full - 1, 90)), 1 + upTo(999));
            case "attorney": return of(account, upTo(chance.nextBoolean() ? 99 : 3), bank.count(0) + upTo(3));
            case "take": return of(account, kind, slot);
            case "redeem": case "prolong": return of(receipt);
            case "give": return of(receipt, account);
            case "order": return of(account, other, likelySum(account), upTo(23), chance.nextInt(5) == 0 ? upTo(3) : account);
            case "bill": return of(account, other, likelySum(account), upTo(3));
            case "slip": int how = upTo(3);
                return of(bank.count(3) - 1 - upTo(1), how, how < 2 ? 0 : how == 2 ? upTo(8) : upTo(bank.count(2) - 1));
            case "suspects": return of(Math.max(0, day - 1));
            case "suspect": return of(upTo(3), upTo(1));
            case "mend": return of(oneToMend());
            case "weighed": return of(kind, slot, upTo(4));
            case "loan": return of(kind, 1 + upTo((int) Math.max(bank.vault(kind, 0), 0)), chance.nextInt());
            case "tell": return of(one(bank.count(9)), upTo(31));
            case "gap": return of(upTo(31), day);
            case "run": return of(1 + upTo(5000));
            case "row": return of(upTo(3), chance.nextInt(3) > 0 ? 2 : upTo(3), upTo(chance.nextInt(9) == 0 ? 60 : 5));
            case "write": return of(slot, upTo(4), chance.nextInt(6) == 0 ? chance.nextLong() : upTo(chance.nextBoolean() ? 200 : 99999));
            case "tear": return of(upTo(3));
            case "paste": return of(slot, upTo(3), chance.nextInt(3) == 0 ? slot : upTo(3), upTo(3), upTo(3));
            case "accountOf": return of(account, upTo(3));
            case "folio": return of(account, upTo(2));
            case "balance": case "written": return of(account);
            case "line": return of(one(bank.count(6)), upTo(4));
            case "lineSum": return of(one(bank.count(6)));
            case "orderOf": return of(order, upTo(6));
            case "receipt": return of(receipt, upTo(5));
            case "book": return of(receipt);
            case "vault": return of(kind, upTo(2));
            case "count": return of(upTo(10));
            case "sum": return of(upTo(4));
            default: return of();
        }
    }

    private long[] likelyTerms() {
        int low = upTo(160) - 110;
        return of(chance.nextBoolean() ? 1000 : 1 + upTo(3000), upTo(100), 1 + upTo(chance.nextBoolean() ? 4 : 60), upTo(100),
            upTo(1000), upTo(100), low, low + upTo(chance.nextBoolean() ? 20 : 250));
    }

    private long likelySum(int account) {
        long has = bank.balance(account);
        switch (chance.nextInt(8)) {
            case 0: return has;
            case 1: return has + 1;
            case 2: return 1 + has / 2;
            default: return SUMS[chance.nextInt(chance.nextInt(4) == 0 ? SUMS.length : 24)];
        }
    }

    // ---- all that the two show behind a run

    private void all() {
        for (int what = -1; what <= 11; what++) {
            both("count", what);
            both("sum", what);
        }
        both("run", 7);
        each("balance", bank.count(2), 0);
        each("written", bank.count(2), 0);
        each("accountOf", bank.count(2), 4);
        each("folio", bank.count(2), 9);
        each("line", bank.count(6), 5);
        each("lineSum", bank.count(6), 0);
        each("orderOf", bank.count(3), 7);
        each("receipt", bank.count(5), 6);
        each("book", bank.count(5), 0);
        each("vault", bank.count(1), 3);
        each("gap", 32, bank.count(0) + 1);
        for (int day = 0; day <= bank.count(0); day++) {
            both("suspects", day);
            each("suspect", 20, 2);
        }
        rows();
    }

    private void each(String name, int count, int whats) {
        for (int i = -1; i <= count; i++) {
            for (int what = -1; what <= whats; what++) {
                both(name, i, what);
            }
        }
    }

    /** A row's numbers one by one, as far as they are weights, by way of slot 3, which is looked at first. */
    private void rows() {
        both("row", 3, 3, 0);
        both("kind", 100000, 1, 1000);
        for (int slot = 0; slot < 3; slot++) {
            for (int width = 0; width <= 3; width++) {
                both("row", 3, width, 1);
                for (int i = 0; i < 8; i++) {
                    both("paste", slot, i, 3, 0, 1);
                    both("weighed", 0, 3, 3);
                    both("weighed", bank.count(1) - 1, 3, 3);
                }
            }
        }
    }
}
