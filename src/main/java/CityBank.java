import java.util.ArrayList;

/** A city's bank of transfers; README.md says how to use it, the document what each call promises. */
public final class CityBank {
    public static final int NONE = -1;

    private static final int DONE = 0;
    private static final int NOT_AS_TOLD = -2;
    private static final int NO_ROOM = -3;
    private static final int BELOW_NOUGHT = -3;
    private static final int NOTHING_THERE = -5;
    private static final int NO_SUCH_NUMBER = -6;
    private static final int BALANCE_IS_LESS = -7;
    private static final int OTHER_WIDTH = -7;
    private static final int NOT_IN_VAULT = -8;
    private static final int TAKES_NONE = -8;
    private static final int LAST_DAY_IS_HERE = -9;

    private static final int LAST_DAY = 5000;
    private static final int MOST_KINDS = 6;
    private static final int MOST_ACCOUNTS = 24;
    private static final int MOST_RECEIPTS = 200;
    private static final int MOST_LINES = 2000;
    private static final int MOST_ORDERS = 300;
    private static final int MOST_LOANS = 20;
    private static final int SLOTS = 4;
    private static final int WIDTHS = 4;
    private static final int MOST_NUMBERS = 60;

    private static final int HOURS = 24;
    private static final int FIRST_HOUR_OF_NEXT_DAY = 11;
    private static final int BILL_HOUR = 9;
    private static final int LAST_SIGNER = 99;
    private static final int CONFIDANTS = 32;
    private static final long GREATEST_SUM = 1000000000L;
    private static final int LINES_OF_A_FOLIO = 8;
    private static final int LINES_KEPT_FOR_AN_ORDER = 3;
    private static final int LINES_OF_AN_ORDER = 2;
    private static final int LAST_PLACE_TO_EXCHANGE = 8;

    private static final int DEBIT = 0;
    private static final int CREDIT = 1;

    private static final int ORDER_WAITS = 0;
    private static final int ORDER_DONE = 1;
    private static final int REFUSED_FOR_SIGNER = 2;
    private static final int REFUSED_FOR_BALANCE = 3;

    private static final int SLIP_LEFT_OUT = 0;
    private static final int SLIP_AS_DEBIT = 1;
    private static final int SLIP_DIGITS = 2;
    private static final int SLIP_OTHER_ACCOUNT = 3;

    private static final int RECEIPT_OPEN = 0;
    private static final int RECEIPT_REDEEMED = 1;
    private static final int RECEIPT_LAPSED = 2;

    private static final int WHOLE = 0;
    private static final int HALF = 1;
    private static final int NINES = 2;

    private final Terms terms;
    private final ArrayList<Kind> kinds;
    private final ArrayList<Account> accounts;
    private final ArrayList<Receipt> receipts;
    private final ArrayList<Order> orders;
    private final ArrayList<Loan> loans;
    private final ArrayList<Slot> slots;
    private final Ledger ledger;
    private final House house;
    private final Weighing weighing;
    private int day;
    private int waiting;
    private long feesAndFines;

    public CityBank() {
        terms = new Terms();
        kinds = new ArrayList<>();
        accounts = new ArrayList<>();
        receipts = new ArrayList<>();
        orders = new ArrayList<>();
        loans = new ArrayList<>();
        slots = new ArrayList<>();
        for (int i = 0; i < SLOTS; i++) {
            slots.add(new Slot());
        }
        ledger = new Ledger();
        house = new House();
        weighing = new Weighing();
    }

    public int terms(int rate, int fee, int lapse, int fine, int pull, int step, int low, int top) {
        boolean asTold = within(rate, 1, 100000) && within(fee, 0, 100) && within(lapse, 1, 1000)
                && within(fine, 0, 100) && within(pull, 0, 1000) && within(step, 0, 100)
                && within(low, House.LEAST_AGIO, top) && within(top, low, House.GREATEST_AGIO);
        if (!asTold) {
            return NOT_AS_TOLD;
        }
        terms.rate = rate;
        terms.fee = fee;
        terms.lapse = lapse;
        terms.fine = fine;
        terms.pull = pull;
        terms.step = step;
        terms.low = low;
        terms.top = top;
        return DONE;
    }

    public int kind(int full, int least, int fineness) {
        if (!within(full, 1, 100000) || !within(least, 1, full) || !within(fineness, 1, 1000)) {
            return NOT_AS_TOLD;
        }
        if (kinds.size() >= MOST_KINDS) {
            return NO_ROOM;
        }
        kinds.add(new Kind(kinds.size(), full, least, fineness));
        return kinds.size() - 1;
    }

    public int account() {
        if (accounts.size() >= MOST_ACCOUNTS) {
            return NO_ROOM;
        }
        accounts.add(new Account(accounts.size()));
        return accounts.size() - 1;
    }

    public int attorney(int account, int person, int day) {
        Account client = accountAt(account);
        if (client == null || !within(person, 0, LAST_SIGNER) || !within(day, 0, LAST_DAY)) {
            return NOT_AS_TOLD;
        }
        client.attorney = person;
        client.attorneyLastDay = day;
        return DONE;
    }

    public int take(int account, int kind, int slot) {
        Account bringer = accountAt(account);
        Kind coin = kindAt(kind);
        Slot brought = slotAt(slot);
        if (bringer == null || coin == null || brought == null) {
            return NOT_AS_TOLD;
        }
        if (!brought.hasRow) {
            return NOTHING_THERE;
        }
        if (receipts.size() >= MOST_RECEIPTS || room() < 1) {
            return NO_ROOM;
        }
        weighing.weigh(brought, coin);
        if (weighing.coins > 0) {
            bringIn(bringer, coin, weighing.coins, weighing.weight);
        }
        return weighing.coins;
    }

    public long redeem(int receipt) {
        Receipt open = openReceiptAt(receipt);
        if (open == null) {
            return NOT_AS_TOLD;
        }
        Kind coin = open.kind;
        long fee = feeOn(open);
        long price = open.book + fee;
        if (open.owner.balance < price) {
            return BALANCE_IS_LESS;
        }
        if (room() < 1) {
            return NO_ROOM;
        }
        if (coin.coins < open.coins || coin.weight < open.weight) {
            return NOT_IN_VAULT;
        }
        coin.coins -= open.coins;
        coin.weight -= open.weight;
        open.state = RECEIPT_REDEEMED;
        payOut(open.owner, price);
        feesAndFines += fee;
        return price;
    }

    public long prolong(int receipt) {
        Receipt open = openReceiptAt(receipt);
        if (open == null) {
            return NOT_AS_TOLD;
        }
        long fee = feeOn(open);
        if (open.owner.balance < fee) {
            return BALANCE_IS_LESS;
        }
        if (room() < 1) {
            return NO_ROOM;
        }
        open.dueDay += terms.lapse;
        payOut(open.owner, fee);
        feesAndFines += fee;
        return fee;
    }

    public int give(int receipt, int account) {
        Receipt open = openReceiptAt(receipt);
        Account owner = accountAt(account);
        if (open == null || owner == null) {
            return NOT_AS_TOLD;
        }
        open.owner = owner;
        return DONE;
    }

    public int order(int from, int to, long sum, int hour, int signer) {
        if (!within(hour, 0, HOURS - 1) || !within(signer, 0, LAST_SIGNER)) {
            return NOT_AS_TOLD;
        }
        int orderDay = hour < FIRST_HOUR_OF_NEXT_DAY ? day : day + 1;
        return letWait(from, to, sum, orderDay, hour, signer);
    }

    public int bill(int from, int to, long sum, int days) {
        if (!within(days, 0, 1000)) {
            return NOT_AS_TOLD;
        }
        return letWait(from, to, sum, day + days, BILL_HOUR, from);
    }

    public int slip(int order, int how, int x) {
        Order slipped = orderAt(order);
        if (slipped == null || slipped.state != ORDER_WAITS || !slipIsAsTold(slipped, how, x)) {
            return NOT_AS_TOLD;
        }
        slipped.slip = how;
        slipped.slipDetail = x;
        return DONE;
    }

    public int close() {
        if (day >= LAST_DAY) {
            return LAST_DAY_IS_HERE;
        }
        int done = carryOutOrders();
        lapseReceipts();
        house.settleAgio(terms);
        day++;
        return done;
    }

    public int suspects(int day) {
        if (day < 0 || day >= this.day) {
            return NOT_AS_TOLD;
        }
        return ledger.findSuspects(day);
    }

    public int suspect(int i, int what) {
        if (i < 0 || i >= ledger.suspectCount) {
            return NONE;
        }
        switch (what) {
            case 0:
                return ledger.suspectLines[i];
            case 1:
                return ledger.suspicions[i];
            default:
                return NONE;
        }
    }

    public boolean mend(int order) {
        Order done = orderAt(order);
        if (done == null || done.state != ORDER_DONE || done.slip == NONE || done.mended) {
            return false;
        }
        Line credit = ledger.lineAt(done.creditLine);
        if (credit == null) {
            if (room() < 1) {
                return false;
            }
            done.creditLine = ledger.enter(done.doneDay, done.payee, CREDIT, done.sum, order);
        } else {
            credit.account = done.payee;
            credit.side = CREDIT;
            credit.sum = done.sum;
        }
        done.mended = true;
        return true;
    }

    public long weighed(int kind, int slot, int what) {
        Kind coin = kindAt(kind);
        Slot brought = slotAt(slot);
        if (coin == null || brought == null || !within(what, 0, 4)) {
            return NOT_AS_TOLD;
        }
        if (!brought.hasRow) {
            return NOTHING_THERE;
        }
        weighing.weigh(brought, coin);
        switch (what) {
            case 0:
                return weighing.coins > 0 ? weighing.lightest : TAKES_NONE;
            case 1:
                return weighing.coins > 0 ? weighing.heaviest : TAKES_NONE;
            case 2:
                return weighing.coins;
            case 3:
                return weighing.weight;
            default:
                return coin.bookOf(weighing.weight, terms.rate);
        }
    }

    public int loan(int kind, int n, int known) {
        Kind coin = kindAt(kind);
        if (coin == null || n < 1) {
            return NOT_AS_TOLD;
        }
        if (coin.coins < n) {
            return NOT_IN_VAULT;
        }
        if (loans.size() >= MOST_LOANS) {
            return NO_ROOM;
        }
        long weight = coin.weight * n / coin.coins;
        coin.coins -= n;
        coin.weight -= weight;
        loans.add(new Loan(coin.bookOf(weight, terms.rate), known, day));
        return loans.size() - 1;
    }

    public boolean tell(int loan, int person) {
        Loan told = loanAt(loan);
        if (told == null || !within(person, 0, CONFIDANTS - 1) || told.knownSince[person] != NONE) {
            return false;
        }
        told.knownSince[person] = day;
        return true;
    }

    public long gap(int person, int day) {
        if (!within(person, 0, CONFIDANTS - 1) || !within(day, 0, this.day)) {
            return NONE;
        }
        long together = 0;
        for (int i = 0; i < loans.size(); i++) {
            Loan made = loans.get(i);
            int since = made.knownSince[person];
            // nobody knows of a loan before it is made, so its own day need not be asked
            if (since != NONE && since <= day) {
                together += made.book;
            }
        }
        return together;
    }

    public long run(long hourly) {
        if (!within(hourly, 1, GREATEST_SUM)) {
            return NOT_AS_TOLD;
        }
        long inVault = bookOfVault();
        if (inVault >= allBalances()) {
            return NONE;
        }
        return (inVault + hourly - 1) / hourly;
    }

    public int accountOf(int account, int what) {
        Account asked = accountAt(account);
        if (asked == null) {
            return NOT_AS_TOLD;
        }
        switch (what) {
            case 0:
                return asked.folio;
            case 1:
                return asked.folios.size();
            case 2:
                return asked.attorney;
            case 3:
                return asked.attorneyLastDay;
            default:
                return NOT_AS_TOLD;
        }
    }

    public int folio(int account, int k) {
        Account asked = accountAt(account);
        return asked == null ? NONE : asked.folioAt(k);
    }

    public long balance(int account) {
        Account asked = accountAt(account);
        return asked == null ? 0 : asked.balance;
    }

    public long written(int account) {
        Account asked = accountAt(account);
        return asked == null ? 0 : ledger.creditsLessDebits(account);
    }

    public int line(int line, int what) {
        Line asked = ledger.lineAt(line);
        if (asked == null) {
            return NOT_AS_TOLD;
        }
        switch (what) {
            case 0:
                return asked.day;
            case 1:
                return asked.account.number;
            case 2:
                return asked.folio;
            case 3:
                return asked.side;
            case 4:
                return asked.order;
            default:
                return NOT_AS_TOLD;
        }
    }

    public long lineSum(int line) {
        Line asked = ledger.lineAt(line);
        return asked == null ? 0 : asked.sum;
    }

    public int orderOf(int order, int what) {
        Order asked = orderAt(order);
        if (asked == null) {
            return NOT_AS_TOLD;
        }
        switch (what) {
            case 0:
                return asked.payer.number;
            case 1:
                return asked.payee.number;
            case 2:
                return asked.day;
            case 3:
                return asked.hour;
            case 4:
                return asked.state;
            case 5:
                return asked.slip;
            case 6:
                return asked.mended ? 1 : 0;
            default:
                return NOT_AS_TOLD;
        }
    }

    public int receipt(int receipt, int what) {
        Receipt asked = receiptAt(receipt);
        if (asked == null) {
            return NOT_AS_TOLD;
        }
        switch (what) {
            case 0:
                return asked.owner.number;
            case 1:
                return asked.kind.number;
            case 2:
                return asked.coins;
            case 3:
                return asked.weight;
            case 4:
                return asked.dueDay;
            case 5:
                return asked.state;
            default:
                return NOT_AS_TOLD;
        }
    }

    public long book(int receipt) {
        Receipt asked = receiptAt(receipt);
        return asked == null ? 0 : asked.book;
    }

    public long vault(int kind, int what) {
        Kind coin = kindAt(kind);
        if (coin == null) {
            return NONE;
        }
        switch (what) {
            case 0:
                return coin.coins;
            case 1:
                return coin.weight;
            case 2:
                return coin.bookOf(coin.weight, terms.rate);
            default:
                return NONE;
        }
    }

    public int count(int what) {
        switch (what) {
            case 0:
                return day;
            case 1:
                return kinds.size();
            case 2:
                return accounts.size();
            case 3:
                return orders.size();
            case 4:
                return waiting;
            case 5:
                return receipts.size();
            case 6:
                return ledger.lines.size();
            case 7:
                return ledger.folios;
            case 8:
                return house.agio;
            case 9:
                return loans.size();
            case 10:
                return slotsWithRow();
            default:
                return NONE;
        }
    }

    public long sum(int what) {
        switch (what) {
            case 0:
                return allBalances();
            case 1:
                return bookOfVault();
            case 2:
                return feesAndFines;
            case 3:
                return house.sold;
            case 4:
                return house.bought;
            default:
                return 0;
        }
    }

    public int row(int slot, int width, int n) {
        Slot asked = slotAt(slot);
        if (asked == null || !within(width, 0, WIDTHS - 1) || n > MOST_NUMBERS) {
            return NOT_AS_TOLD;
        }
        if (n < 0) {
            return BELOW_NOUGHT;
        }
        asked.begin(width, n);
        return DONE;
    }

    public boolean tear(int slot) {
        Slot asked = slotAt(slot);
        if (asked == null || !asked.hasRow) {
            return false;
        }
        asked.hasRow = false;
        return true;
    }

    public int write(int slot, int i, long v) {
        Slot asked = slotAt(slot);
        if (asked == null) {
            return NOT_AS_TOLD;
        }
        if (!asked.hasRow) {
            return NOTHING_THERE;
        }
        if (i < 0 || i >= asked.size) {
            return NO_SUCH_NUMBER;
        }
        asked.numbers[i] = asked.cutToWidth(v);
        return DONE;
    }

    public int paste(int slot, int i, int to, int k, int n) {
        Slot source = slotAt(slot);
        Slot target = slotAt(to);
        if (source == null || target == null) {
            return NOT_AS_TOLD;
        }
        if (!source.hasRow || !target.hasRow) {
            return NOTHING_THERE;
        }
        if (source.width != target.width) {
            return OTHER_WIDTH;
        }
        if (!source.hasStretch(i, n) || !target.hasStretch(k, n)) {
            return NO_SUCH_NUMBER;
        }
        System.arraycopy(source.numbers, i, target.numbers, k, n);
        return DONE;
    }

    private static boolean within(long value, long least, long greatest) {
        return value >= least && value <= greatest;
    }

    private Kind kindAt(int i) {
        return i >= 0 && i < kinds.size() ? kinds.get(i) : null;
    }

    private Account accountAt(int i) {
        return i >= 0 && i < accounts.size() ? accounts.get(i) : null;
    }

    private Receipt receiptAt(int i) {
        return i >= 0 && i < receipts.size() ? receipts.get(i) : null;
    }

    private Receipt openReceiptAt(int i) {
        Receipt found = receiptAt(i);
        return found != null && found.state == RECEIPT_OPEN ? found : null;
    }

    private Order orderAt(int i) {
        return i >= 0 && i < orders.size() ? orders.get(i) : null;
    }

    private Loan loanAt(int i) {
        return i >= 0 && i < loans.size() ? loans.get(i) : null;
    }

    private Slot slotAt(int i) {
        return i >= 0 && i < slots.size() ? slots.get(i) : null;
    }

    private int room() {
        return MOST_LINES - ledger.lines.size() - LINES_KEPT_FOR_AN_ORDER * waiting;
    }

    private long feeOn(Receipt receipt) {
        return receipt.book * terms.fee / 1000;
    }

    private void bringIn(Account bringer, Kind coin, int coins, int weight) {
        long book = coin.bookOf(weight, terms.rate);
        receipts.add(new Receipt(bringer, coin, coins, weight, book, day + terms.lapse));
        coin.coins += coins;
        coin.weight += weight;
        bringer.balance += book;
        ledger.enter(day, bringer, CREDIT, book, NONE);
        house.taken += book;
    }

    private void payOut(Account payer, long sum) {
        payer.balance -= sum;
        ledger.enter(day, payer, DEBIT, sum, NONE);
    }

    private int letWait(int from, int to, long sum, int orderDay, int hour, int signer) {
        Account payer = accountAt(from);
        Account payee = accountAt(to);
        if (payer == null || payee == null || from == to || !within(sum, 1, GREATEST_SUM)) {
            return NOT_AS_TOLD;
        }
        if (orders.size() >= MOST_ORDERS || room() < LINES_KEPT_FOR_AN_ORDER) {
            return NO_ROOM;
        }
        orders.add(new Order(payer, payee, sum, orderDay, hour, signer));
        waiting++;
        return orders.size() - 1;
    }

    private boolean slipIsAsTold(Order order, int how, int x) {
        switch (how) {
            case SLIP_LEFT_OUT:
            case SLIP_AS_DEBIT:
                return x == 0;
            case SLIP_DIGITS:
                return within(x, 0, LAST_PLACE_TO_EXCHANGE);
            case SLIP_OTHER_ACCOUNT:
                return accountAt(x) != null && x != order.payer.number && x != order.payee.number;
            default:
                return false;
        }
    }

    private int carryOutOrders() {
        int done = 0;
        for (int left = waiting; left > 0; left--) {
            int next = nextOrderDue();
            Order due = orderAt(next);
            if (due == null) {
                break;
            }
            carryOut(due, next);
            waiting--;
            if (due.state == ORDER_DONE) {
                done++;
            }
        }
        return done;
    }

    private int nextOrderDue() {
        int next = NONE;
        int earliest = HOURS;
        for (int i = 0; i < orders.size(); i++) {
            Order order = orders.get(i);
            // strictly earlier, so that of one hour the lowest number stays
            if (order.state == ORDER_WAITS && order.day <= day && order.hour < earliest) {
                next = i;
                earliest = order.hour;
            }
        }
        return next;
    }

    private void carryOut(Order order, int number) {
        Account payer = order.payer;
        if (!payer.maySign(order.signer, day)) {
            order.state = REFUSED_FOR_SIGNER;
        } else if (payer.balance < order.sum) {
            order.state = REFUSED_FOR_BALANCE;
            long fine = Math.min(order.sum * terms.fine / 100, payer.balance);
            payOut(payer, fine);
            feesAndFines += fine;
        } else {
            order.state = ORDER_DONE;
            order.doneDay = day;
            payer.balance -= order.sum;
            order.payee.balance += order.sum;
            ledger.enter(day, payer, DEBIT, order.sum, number);
            order.creditLine = enterCredit(order, number);
            house.transferred += order.sum;
        }
    }

    private int enterCredit(Order order, int number) {
        Account account = order.payee;
        int side = CREDIT;
        long sum = order.sum;
        switch (order.slip) {
            case SLIP_LEFT_OUT:
                return NONE;
            case SLIP_AS_DEBIT:
                side = DEBIT;
                break;
            case SLIP_DIGITS:
                sum = Ledger.withDigitsExchanged(sum, order.slipDetail);
                break;
            case SLIP_OTHER_ACCOUNT:
                Account other = accountAt(order.slipDetail);
                account = other == null ? account : other;
                break;
            default:
                break;
        }
        return ledger.enter(day, account, side, sum, number);
    }

    private void lapseReceipts() {
        for (int i = 0; i < receipts.size(); i++) {
            Receipt receipt = receipts.get(i);
            if (receipt.state == RECEIPT_OPEN && receipt.dueDay <= day) {
                receipt.state = RECEIPT_LAPSED;
            }
        }
    }

    private long allBalances() {
        long together = 0;
        for (int i = 0; i < accounts.size(); i++) {
            together += accounts.get(i).balance;
        }
        return together;
    }

    private long bookOfVault() {
        long together = 0;
        for (int i = 0; i < kinds.size(); i++) {
            Kind coin = kinds.get(i);
            together += coin.bookOf(coin.weight, terms.rate);
        }
        return together;
    }

    private int slotsWithRow() {
        int found = 0;
        for (int i = 0; i < slots.size(); i++) {
            if (slots.get(i).hasRow) {
                found++;
            }
        }
        return found;
    }

    private static final class Terms {
        int rate = 1000;
        int fee = 5;
        int lapse = 180;
        int fine = 3;
        int pull = 10;
        int step = 5;
        int low = 30;
        int top = 60;

        Terms() {
        }
    }

    /** A kind of coin, with what the vault has of it. */
    private static final class Kind {
        final int number;
        final int full;
        final int least;
        final int fineness;
        int coins;
        long weight;

        Kind(int number, int full, int least, int fineness) {
            this.number = number;
            this.full = full;
            this.least = least;
            this.fineness = fineness;
        }

        boolean takes(long coinWeight) {
            return coinWeight >= least && coinWeight <= full;
        }

        long bookOf(long someWeight, int rate) {
            long fine = someWeight * fineness / 1000;
            return fine * rate / 1000;
        }
    }

    private static final class Account {
        final int number;
        final ArrayList<Integer> folios;
        int folio = NONE;
        int linesOnFolio;
        long balance;
        int attorney = NONE;
        int attorneyLastDay = NONE;

        Account(int number) {
            this.number = number;
            this.folios = new ArrayList<>();
        }

        int folioAt(int k) {
            return k >= 0 && k < folios.size() ? folios.get(k) : NONE;
        }

        boolean maySign(int person, int onDay) {
            return person == number || person == attorney && onDay <= attorneyLastDay;
        }
    }

    private static final class Receipt {
        final Kind kind;
        final int coins;
        final int weight;
        final long book;
        Account owner;
        int dueDay;
        int state = RECEIPT_OPEN;

        Receipt(Account owner, Kind kind, int coins, int weight, long book, int dueDay) {
            this.owner = owner;
            this.kind = kind;
            this.coins = coins;
            this.weight = weight;
            this.book = book;
            this.dueDay = dueDay;
        }
    }

    private static final class Order {
        final Account payer;
        final Account payee;
        final long sum;
        final int day;
        final int hour;
        final int signer;
        int state = ORDER_WAITS;
        int slip = NONE;
        int slipDetail;
        int doneDay = NONE;
        int creditLine = NONE;
        boolean mended;

        Order(Account payer, Account payee, long sum, int day, int hour, int signer) {
            this.payer = payer;
            this.payee = payee;
            this.sum = sum;
            this.day = day;
            this.hour = hour;
            this.signer = signer;
        }
    }

    private static final class Line {
        final int day;
        final int folio;
        final int order;
        Account account;
        int side;
        long sum;

        Line(int day, Account account, int folio, int side, long sum, int order) {
            this.day = day;
            this.account = account;
            this.folio = folio;
            this.side = side;
            this.sum = sum;
            this.order = order;
        }

        boolean isOfBooks(int ofDay) {
            return day == ofDay && order != NONE;
        }
    }

    /** All lines that were written, and the suspects that were last looked for among them. */
    private static final class Ledger {
        // an order has a debit and a credit, so no more lines than these can ever be suspects
        static final int MOST_SUSPECTS = MOST_ORDERS * LINES_OF_AN_ORDER;

        final ArrayList<Line> lines;
        final int[] suspectLines;
        final int[] suspicions;
        int suspectCount;
        int folios;

        Ledger() {
            lines = new ArrayList<>();
            suspectLines = new int[MOST_SUSPECTS];
            suspicions = new int[MOST_SUSPECTS];
        }

        Line lineAt(int i) {
            return i >= 0 && i < lines.size() ? lines.get(i) : null;
        }

        /** The number of the new line; NONE for a sum of 0, which is not written. */
        int enter(int day, Account account, int side, long sum, int order) {
            if (sum == 0) {
                return NONE;
            }
            lines.add(new Line(day, account, folioForLineOf(account), side, sum, order));
            return lines.size() - 1;
        }

        int folioForLineOf(Account account) {
            if (account.folio == NONE || account.linesOnFolio >= LINES_OF_A_FOLIO) {
                account.folio = folios;
                account.folios.add(folios);
                account.linesOnFolio = 0;
                folios++;
            }
            account.linesOnFolio++;
            return account.folio;
        }

        long creditsLessDebits(int account) {
            long together = 0;
            for (int i = 0; i < lines.size(); i++) {
                Line line = lines.get(i);
                if (line.account.number == account) {
                    together += line.side == CREDIT ? line.sum : -line.sum;
                }
            }
            return together;
        }

        long debitsLessCredits(int day) {
            long together = 0;
            for (int i = 0; i < lines.size(); i++) {
                Line line = lines.get(i);
                if (line.isOfBooks(day)) {
                    together += line.side == DEBIT ? line.sum : -line.sum;
                }
            }
            return together;
        }

        int findSuspects(int day) {
            suspectCount = 0;
            long difference = debitsLessCredits(day);
            if (difference == 0) {
                return NONE;
            }
            for (int i = 0; i < lines.size(); i++) {
                Line line = lines.get(i);
                int suspicion = line.isOfBooks(day) ? suspicionOf(line, difference) : NONE;
                if (suspicion != NONE && suspectCount < MOST_SUSPECTS) {
                    suspectLines[suspectCount] = i;
                    suspicions[suspectCount] = suspicion;
                    suspectCount++;
                }
            }
            return suspectCount;
        }

        static int suspicionOf(Line line, long difference) {
            if (line.side == CREDIT) {
                boolean nines = difference % 9 == 0 && someExchangeAdds(line.sum, difference);
                return nines ? NINES : NONE;
            }
            if (line.sum == difference) {
                return WHOLE;
            }
            return difference % 2 == 0 && line.sum == difference / 2 ? HALF : NONE;
        }

        static boolean someExchangeAdds(long sum, long difference) {
            for (int place = 0; place <= LAST_PLACE_TO_EXCHANGE; place++) {
                if (withDigitsExchanged(sum, place) == sum + difference) {
                    return true;
                }
            }
            return false;
        }

        static long withDigitsExchanged(long sum, int place) {
            long unit = 1;
            long rest = sum;
            for (int i = 0; i < place; i++) {
                unit *= 10;
                rest /= 10;
            }
            long lower = rest % 10;
            long upper = rest / 10 % 10;
            // the lower digit moves from 1 to 10 units, the upper one from 10 to 1
            return sum + (lower - upper) * 9 * unit;
        }
    }

    private static final class Loan {
        final long book;
        final int[] knownSince;

        Loan(long book, int known, int day) {
            this.book = book;
            this.knownSince = new int[CONFIDANTS];
            for (int person = 0; person < CONFIDANTS; person++) {
                knownSince[person] = (known >>> person & 1) == 1 ? day : NONE;
            }
        }
    }

    /** The agio, what moves it on this day, and what the house did to hold it. */
    private static final class House {
        static final int LEAST_AGIO = -100;
        static final int GREATEST_AGIO = 300;

        int agio = 40;
        long sold;
        long bought;
        long transferred;
        long taken;

        House() {
        }

        void settleAgio(Terms terms) {
            long moved = agio + clamp(pulled(terms.pull), -terms.step, terms.step);
            agio = (int) clamp(moved, LEAST_AGIO, GREATEST_AGIO);
            if (agio > terms.top) {
                sold += agio - terms.top;
                agio = terms.top;
            } else if (agio < terms.low) {
                bought += terms.low - agio;
                agio = terms.low;
            }
            transferred = 0;
            taken = 0;
        }

        long pulled(long pull) {
            long turnover = transferred + taken + 1000;
            return turnover > 0 ? pull * (transferred - taken) / turnover : 0;
        }

        static long clamp(long value, long least, long greatest) {
            return Math.max(least, Math.min(value, greatest));
        }
    }

    /** One weighing is used for all calls, so that none makes another. */
    private static final class Weighing {
        int coins;
        int weight;
        long lightest;
        long heaviest;

        Weighing() {
        }

        void weigh(Slot brought, Kind coin) {
            coins = 0;
            weight = 0;
            for (int i = 0; i < brought.size && i < MOST_NUMBERS; i++) {
                long one = brought.numbers[i];
                if (coin.takes(one)) {
                    lightest = coins == 0 ? one : Math.min(lightest, one);
                    heaviest = coins == 0 ? one : Math.max(heaviest, one);
                    coins++;
                    weight += (int) one;
                }
            }
        }
    }

    /** A place for a row; the numbers are signed and kept as they are once cut to the width. */
    private static final class Slot {
        final long[] numbers;
        boolean hasRow;
        int width;
        int size;

        Slot() {
            numbers = new long[MOST_NUMBERS];
        }

        void begin(int rowWidth, int n) {
            for (int i = 0; i < MOST_NUMBERS; i++) {
                numbers[i] = 0;
            }
            hasRow = true;
            width = rowWidth;
            size = n;
        }

        long cutToWidth(long value) {
            switch (width) {
                case 0:
                    return (byte) value;
                case 1:
                    return (short) value;
                case 2:
                    return (int) value;
                default:
                    return value;
            }
        }

        boolean hasStretch(int place, int n) {
            return place >= 0 && n >= 0 && place <= size - n;
        }
    }
}
