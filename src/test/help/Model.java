import java.lang.reflect.Array;
import java.util.ArrayList;
import java.util.Comparator;
import java.util.HashMap;
import java.util.List;
import java.util.Map;
import java.util.stream.Collectors;
import java.util.stream.IntStream;

/**
 * The document once more, to compare the class with: written from its words alone, with all of the Java library.
 * What can be told from receipts, orders, loans and lines (the vault, B and C, who waits, how full a folio is) is
 * counted anew each time, so that it can't go wrong in the way in which something kept could.
 */
final class Model {
    private static final int NONE = -1;

    private int rate = 1000;
    private int fee = 5;
    private int lapse = 180;
    private int fine = 3;
    private int pull = 10;
    private int step = 5;
    private int low = 30;
    private int top = 60;
    private int day = 0;
    private int agio = 40;
    private long sold = 0;
    private long bought = 0;
    private long paid = 0;
    private final List<int[]> kinds = new ArrayList<>();
    private final List<Account> accounts = new ArrayList<>();
    private final List<Receipt> receipts = new ArrayList<>();
    private final List<Line> lines = new ArrayList<>();
    private final List<Order> orders = new ArrayList<>();
    private final List<Loan> loans = new ArrayList<>();
    private final Object[] slots = new Object[4];
    private List<int[]> suspects = List.of();

    private static final class Account {
        long balance = 0;
        int attorney = NONE;
        int last = NONE;
        final List<Integer> folios = new ArrayList<>();
    }

    private static final class Receipt {
        int account;
        int kind;
        int coins;
        long weight;
        long book;
        int came;
        int due;
        int how = 0;
    }

    private static final class Line {
        int day;
        int account;
        int folio;
        int side;
        long sum;
        int order;
    }

    private static final class Order {
        int from;
        int to;
        long sum;
        int day;
        int hour;
        int signer;
        int how = 0;
        int slip = NONE;
        int x;
        int doneOn = NONE;
        boolean right = false;
    }

    private static final class Loan {
        int kind;
        int coins;
        long weight;
        long book;
        final Map<Integer, Integer> since = new HashMap<>();
    }

    // ---- Term I

    private static boolean in(long value, long from, long to) {
        return from <= value && value <= to;
    }

    private static <T> boolean has(List<T> list, int i) {
        return in(i, 0, list.size() - 1);
    }

    private static boolean isSlot(int slot) {
        return in(slot, 0, 3);
    }

    private long bookOf(int kind, long weight) {
        long pure = Math.multiplyExact(weight, kinds.get(kind)[2]) / 1000;
        return Math.multiplyExact(pure, rate) / 1000;
    }

    int terms(int rate, int fee, int lapse, int fine, int pull, int step, int low, int top) {
        if (!in(rate, 1, 100000) || !in(fee, 0, 100) || !in(lapse, 1, 1000) || !in(fine, 0, 100) || !in(pull, 0, 1000)
                || !in(step, 0, 100) || !in(low, -100, 300) || !in(top, -100, 300) || low > top) {
            return -2;
        }
        this.rate = rate;
        this.fee = fee;
        this.lapse = lapse;
        this.fine = fine;
        this.pull = pull;
        this.step = step;
        this.low = low;
        this.top = top;
        return 0;
    }

    int kind(int full, int least, int fineness) {
        if (!in(full, 1, 100000) || !in(least, 1, full) || !in(fineness, 1, 1000)) {
            return -2;
        }
        return kinds.size() == 6 ? -3 : added(kinds, new int[] {full, least, fineness});
    }

    private static <T> int added(List<T> list, T one) {
        list.add(one);
        return list.size() - 1;
    }

    int account() {
        return accounts.size() == 24 ? -3 : added(accounts, new Account());
    }

    int attorney(int account, int person, int day) {
        if (!has(accounts, account) || !in(person, 0, 99) || !in(day, 0, 5000)) {
            return -2;
        }
        accounts.get(account).attorney = person;
        accounts.get(account).last = day;
        return 0;
    }

    // ---- Term II: coins, receipts and lines

    private List<Long> taken(int kind, int slot) {
        int[] k = kinds.get(kind);
        return IntStream.range(0, Array.getLength(slots[slot])).mapToObj(i -> Array.getLong(slots[slot], i))
                .filter(w -> w >= k[1] && w <= k[0]).collect(Collectors.toList());
    }

    private static long together(List<Long> weights) {
        return weights.stream().mapToLong(w -> w).sum();
    }

    private long coinsInVault(int kind) {
        return receipts.stream().filter(r -> r.kind == kind && r.how != 1).mapToLong(r -> r.coins).sum()
                - loans.stream().filter(l -> l.kind == kind).mapToLong(l -> l.coins).sum();
    }

    private long weightInVault(int kind) {
        return receipts.stream().filter(r -> r.kind == kind && r.how != 1).mapToLong(r -> r.weight).sum()
                - loans.stream().filter(l -> l.kind == kind).mapToLong(l -> l.weight).sum();
    }

    private long waiting() {
        return orders.stream().filter(o -> o.how == 0).count();
    }

    private long room() {
        return 2000 - lines.size() - 3 * waiting();
    }

    private void enter(int day, int account, int side, long sum, int order) {
        if (sum == 0) {
            return;
        }
        Line line = new Line();
        line.day = day;
        line.account = account;
        line.folio = folioFor(accounts.get(account));
        line.side = side;
        line.sum = sum;
        line.order = order;
        lines.add(line);
    }

    private int folioFor(Account account) {
        int current = account.folios.isEmpty() ? NONE : account.folios.get(account.folios.size() - 1);
        if (current == NONE || lines.stream().filter(l -> l.folio == current).count() == 8) {
            account.folios.add(count(7));
        }
        return account.folios.get(account.folios.size() - 1);
    }

    private void pay(int account, long sum) {
        accounts.get(account).balance -= sum;
        enter(day, account, 0, sum, NONE);
    }

    int take(int account, int kind, int slot) {
        if (!has(accounts, account) || !has(kinds, kind) || !isSlot(slot)) {
            return -2;
        }
        if (slots[slot] == null) {
            return -5;
        }
        if (receipts.size() == 200 || room() < 1) {
            return -3;
        }
        List<Long> coins = taken(kind, slot);
        if (!coins.isEmpty()) {
            Receipt r = new Receipt();
            r.account = account;
            r.kind = kind;
            r.coins = coins.size();
            r.weight = together(coins);
            r.book = bookOf(kind, r.weight);
            r.came = day;
            r.due = day + lapse;
            receipts.add(r);
            accounts.get(account).balance += r.book;
            enter(day, account, 1, r.book, NONE);
        }
        return coins.size();
    }

    private boolean isOpen(int receipt) {
        return has(receipts, receipt) && receipts.get(receipt).how == 0;
    }

    long redeem(int receipt) {
        if (!isOpen(receipt)) {
            return -2;
        }
        Receipt r = receipts.get(receipt);
        long due = r.book * fee / 1000;
        if (accounts.get(r.account).balance < r.book + due) {
            return -7;
        }
        if (room() < 1) {
            return -3;
        }
        if (coinsInVault(r.kind) < r.coins || weightInVault(r.kind) < r.weight) {
            return -8;
        }
        r.how = 1;
        pay(r.account, r.book + due);
        paid += due;
        return r.book + due;
    }

    long prolong(int receipt) {
        if (!isOpen(receipt)) {
            return -2;
        }
        Receipt r = receipts.get(receipt);
        long due = r.book * fee / 1000;
        if (accounts.get(r.account).balance < due) {
            return -7;
        }
        if (room() < 1) {
            return -3;
        }
        r.due += lapse;
        pay(r.account, due);
        paid += due;
        return due;
    }

    int give(int receipt, int account) {
        if (!isOpen(receipt) || !has(accounts, account)) {
            return -2;
        }
        receipts.get(receipt).account = account;
        return 0;
    }

    // ---- Term III: orders, slips and books

    int order(int from, int to, long sum, int hour, int signer) {
        if (!has(accounts, from) || !has(accounts, to) || from == to || !in(sum, 1, 1000000000) || !in(hour, 0, 23)
                || !in(signer, 0, 99)) {
            return -2;
        }
        if (orders.size() == 300 || room() < 3) {
            return -3;
        }
        Order o = new Order();
        o.from = from;
        o.to = to;
        o.sum = sum;
        o.day = hour < 11 ? day : day + 1;
        o.hour = hour;
        o.signer = signer;
        return added(orders, o);
    }

    int bill(int from, int to, long sum, int days) {
        if (!in(days, 0, 1000)) {
            return -2;
        }
        // its holder can't be out of 0 .. 99 if there is such an account, so nothing else is asked of it
        int number = order(from, to, sum, 9, in(from, 0, 99) ? from : 0);
        if (number >= 0) {
            orders.get(number).day = day + days;
        }
        return number;
    }

    int slip(int order, int how, int x) {
        if (!has(orders, order) || orders.get(order).how != 0 || !in(how, 0, 3)) {
            return -2;
        }
        Order o = orders.get(order);
        boolean asTold = how == 2 ? in(x, 0, 8) : how == 3 ? has(accounts, x) && x != o.from && x != o.to : x == 0;
        if (!asTold) {
            return -2;
        }
        o.slip = how;
        o.x = x;
        return 0;
    }

    static long exchanged(long sum, int place) {
        StringBuilder digits = new StringBuilder(String.format("%015d", sum)).reverse();
        char lower = digits.charAt(place);
        digits.setCharAt(place, digits.charAt(place + 1));
        digits.setCharAt(place + 1, lower);
        return Long.parseLong(digits.reverse().toString());
    }

    int close() {
        if (day == 5000) {
            return -9;
        }
        List<Order> due = orders.stream().filter(o -> o.how == 0 && o.day <= day)
                .sorted(Comparator.comparingInt((Order o) -> o.hour).thenComparingInt(orders::indexOf)).collect(Collectors.toList());
        due.forEach(this::carryOut);
        receipts.stream().filter(r -> r.how == 0 && r.due <= day).forEach(r -> r.how = 2);
        settle();
        day++;
        return (int) due.stream().filter(o -> o.how == 1).count();
    }

    private void carryOut(Order o) {
        Account from = accounts.get(o.from);
        if (o.signer != o.from && !(o.signer == from.attorney && day <= from.last)) {
            o.how = 2;
            return;
        }
        if (from.balance < o.sum) {
            o.how = 3;
            long due = Math.min(from.balance, o.sum * fine / 100);
            pay(o.from, due);
            paid += due;
            return;
        }
        o.how = 1;
        o.doneOn = day;
        from.balance -= o.sum;
        accounts.get(o.to).balance += o.sum;
        int number = orders.indexOf(o);
        enter(day, o.from, 0, o.sum, number);
        if (o.slip != 0) {
            enter(day, o.slip == 3 ? o.x : o.to, o.slip == 1 ? 0 : 1, o.slip == 2 ? exchanged(o.sum, o.x) : o.sum, number);
        }
    }

    private void settle() {
        long b = orders.stream().filter(o -> o.how == 1 && o.doneOn == day).mapToLong(o -> o.sum).sum();
        long c = receipts.stream().filter(r -> r.came == day).mapToLong(r -> r.book).sum();
        long move = Math.multiplyExact(pull, b - c) / (b + c + 1000);
        long next = agio + (move > step ? step : move < -step ? -step : move);
        next = next < -100 ? -100 : next > 300 ? 300 : next;
        if (next > top) {
            sold += next - top;
            next = top;
        } else if (next < low) {
            bought += low - next;
            next = low;
        }
        agio = (int) next;
    }

    private static long signed(Line line, int more) {
        return line.side == more ? line.sum : -line.sum;
    }

    int suspects(int day) {
        if (!in(day, 0, this.day - 1)) {
            return -2;
        }
        suspects = new ArrayList<>();
        long d = lines.stream().filter(l -> l.day == day && l.order != NONE).mapToLong(l -> signed(l, 0)).sum();
        if (d == 0) {
            return NONE;
        }
        for (Line line : lines) {
            if (line.day == day && line.order != NONE) {
                suspect(line, d);
            }
        }
        return suspects.size();
    }

    private void suspect(Line line, long d) {
        boolean debit = line.side == 0;
        boolean nines = !debit && d % 9 == 0
                && IntStream.rangeClosed(0, 8).anyMatch(place -> exchanged(line.sum, place) == line.sum + d);
        int how = debit && line.sum == d ? 0 : debit && line.sum * 2 == d ? 1 : nines ? 2 : NONE;
        if (how != NONE) {
            suspects.add(new int[] {lines.indexOf(line), how});
        }
    }

    int suspect(int i, int what) {
        return has(suspects, i) && in(what, 0, 1) ? suspects.get(i)[what] : NONE;
    }

    boolean mend(int order) {
        if (!has(orders, order)) {
            return false;
        }
        Order o = orders.get(order);
        if (o.how != 1 || o.slip == NONE || o.right || o.slip == 0 && room() < 1) {
            return false;
        }
        o.right = true;
        if (o.slip == 0) {
            enter(o.doneOn, o.to, 1, o.sum, order);
            return true;
        }
        List<Line> written = lines.stream().filter(l -> l.order == order).collect(Collectors.toList());
        Line credit = written.get(1);
        credit.account = o.to;
        credit.side = 1;
        credit.sum = o.sum;
        return true;
    }

    // ---- Term IV: the vault and loans

    long weighed(int kind, int slot, int what) {
        if (!has(kinds, kind) || !isSlot(slot) || !in(what, 0, 4)) {
            return -2;
        }
        if (slots[slot] == null) {
            return -5;
        }
        List<Long> coins = taken(kind, slot);
        switch (what) {
            case 0: return coins.stream().mapToLong(w -> w).min().orElse(-8);
            case 1: return coins.stream().mapToLong(w -> w).max().orElse(-8);
            case 2: return coins.size();
            case 3: return together(coins);
            default: return bookOf(kind, together(coins));
        }
    }

    int loan(int kind, int n, int known) {
        if (!has(kinds, kind) || n < 1) {
            return -2;
        }
        if (coinsInVault(kind) < n) {
            return -8;
        }
        if (loans.size() == 20) {
            return -3;
        }
        Loan l = new Loan();
        l.weight = Math.multiplyExact(weightInVault(kind), n) / coinsInVault(kind);
        l.kind = kind;
        l.coins = n;
        l.book = bookOf(kind, l.weight);
        for (int person = 0; person < 32; person++) {
            if ((known & 1 << person) != 0) {
                l.since.put(person, day);
            }
        }
        return added(loans, l);
    }

    boolean tell(int loan, int person) {
        return has(loans, loan) && in(person, 0, 31) && loans.get(loan).since.putIfAbsent(person, day) == null;
    }

    long gap(int person, int day) {
        if (!in(person, 0, 31) || !in(day, 0, this.day)) {
            return NONE;
        }
        return loans.stream().filter(l -> l.since.getOrDefault(person, 9999) <= day).mapToLong(l -> l.book).sum();
    }

    long run(long hourly) {
        if (!in(hourly, 1, 1000000000)) {
            return -2;
        }
        return sum(1) >= sum(0) ? NONE : sum(1) / hourly + (sum(1) % hourly == 0 ? 0 : 1);
    }

    // ---- how things are

    int accountOf(int account, int what) {
        if (!has(accounts, account) || !in(what, 0, 3)) {
            return -2;
        }
        Account a = accounts.get(account);
        int had = a.folios.size();
        return new int[] {had == 0 ? NONE : a.folios.get(had - 1), had, a.attorney, a.last}[what];
    }

    int folio(int account, int k) {
        return has(accounts, account) && has(accounts.get(account).folios, k) ? accounts.get(account).folios.get(k) : NONE;
    }

    long balance(int account) {
        return has(accounts, account) ? accounts.get(account).balance : 0;
    }

    long written(int account) {
        return lines.stream().filter(l -> l.account == account).mapToLong(l -> signed(l, 1)).sum();
    }

    int line(int line, int what) {
        if (!has(lines, line) || !in(what, 0, 4)) {
            return -2;
        }
        Line l = lines.get(line);
        return new int[] {l.day, l.account, l.folio, l.side, l.order}[what];
    }

    long lineSum(int line) {
        return has(lines, line) ? lines.get(line).sum : 0;
    }

    int orderOf(int order, int what) {
        if (!has(orders, order) || !in(what, 0, 6)) {
            return -2;
        }
        Order o = orders.get(order);
        return new int[] {o.from, o.to, o.day, o.hour, o.how, o.slip, o.right ? 1 : 0}[what];
    }

    int receipt(int receipt, int what) {
        if (!has(receipts, receipt) || !in(what, 0, 5)) {
            return -2;
        }
        Receipt r = receipts.get(receipt);
        return new int[] {r.account, r.kind, r.coins, (int) r.weight, r.due, r.how}[what];
    }

    long book(int receipt) {
        return has(receipts, receipt) ? receipts.get(receipt).book : 0;
    }

    long vault(int kind, int what) {
        if (!has(kinds, kind) || !in(what, 0, 2)) {
            return NONE;
        }
        return what == 0 ? coinsInVault(kind) : what == 1 ? weightInVault(kind) : bookOf(kind, weightInVault(kind));
    }

    int count(int what) {
        switch (what) {
            case 0: return day;
            case 1: return kinds.size();
            case 2: return accounts.size();
            case 3: return orders.size();
            case 4: return (int) waiting();
            case 5: return receipts.size();
            case 6: return lines.size();
            case 7: return accounts.stream().mapToInt(a -> a.folios.size()).sum();
            case 8: return agio;
            case 9: return loans.size();
            case 10: return (int) IntStream.range(0, 4).filter(slot -> slots[slot] != null).count();
            default: return NONE;
        }
    }

    long sum(int what) {
        switch (what) {
            case 0: return accounts.stream().mapToLong(a -> a.balance).sum();
            case 1: return IntStream.range(0, kinds.size()).mapToLong(kind -> bookOf(kind, weightInVault(kind))).sum();
            case 2: return paid;
            case 3: return sold;
            case 4: return bought;
            default: return 0;
        }
    }

    // ---- rows: Java's own arrays, of the width's own type

    int row(int slot, int width, int n) {
        if (!isSlot(slot) || !in(width, 0, 3) || n > 60) {
            return -2;
        }
        if (n < 0) {
            return -3;
        }
        slots[slot] = Array.newInstance(List.of(byte.class, short.class, int.class, long.class).get(width), n);
        return 0;
    }

    boolean tear(int slot) {
        if (!isSlot(slot) || slots[slot] == null) {
            return false;
        }
        slots[slot] = null;
        return true;
    }

    int write(int slot, int i, long v) {
        if (!isSlot(slot)) {
            return -2;
        }
        if (slots[slot] == null) {
            return -5;
        }
        if (!in(i, 0, Array.getLength(slots[slot]) - 1)) {
            return -6;
        }
        Object row = slots[slot];
        if (row instanceof byte[]) {
            ((byte[]) row)[i] = (byte) v;
        } else if (row instanceof short[]) {
            ((short[]) row)[i] = (short) v;
        } else if (row instanceof int[]) {
            ((int[]) row)[i] = (int) v;
        } else {
            ((long[]) row)[i] = v;
        }
        return 0;
    }

    int paste(int slot, int i, int to, int k, int n) {
        if (!isSlot(slot) || !isSlot(to)) {
            return -2;
        }
        if (slots[slot] == null || slots[to] == null) {
            return -5;
        }
        if (slots[slot].getClass() != slots[to].getClass()) {
            return -7;
        }
        if (i < 0 || k < 0 || n < 0 || (long) i + n > Array.getLength(slots[slot]) || (long) k + n > Array.getLength(slots[to])) {
            return -6;
        }
        System.arraycopy(slots[slot], i, slots[to], k, n);
        return 0;
    }
}
