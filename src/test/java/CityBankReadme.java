/** The examples of README.md, call by call, with the answers that it tells. */
public final class CityBankReadme {
    private static int wrong = 0;

    private CityBankReadme() {
    }

    private static void due(String call, long got, long want) {
        if (got != want) {
            wrong++;
            System.out.println(call + " answered " + got + ", README.md says " + want);
        }
    }

    public static void main(String[] args) {
        CityBank bank = new CityBank();
        coins(bank);
        orders(bank);
        vault(bank);
        System.out.println(wrong == 0 ? "README.md says what is answered" : wrong + " answers are not as README.md says");
        if (wrong != 0) {
            System.exit(1);
        }
    }

    private static void coins(CityBank bank) {
        due("kind", bank.kind(100, 90, 900), 0);
        due("payer", bank.account(), 0);
        due("payee", bank.account(), 1);
        due("row", bank.row(0, 1, 3), 0);
        due("write", bank.write(0, 0, 100), 0);
        due("write", bank.write(0, 1, 95), 0);
        due("write", bank.write(0, 2, 89), 0);
        due("take", bank.take(0, 0, 0), 2);
        due("weight", bank.receipt(0, 3), 195);
        due("balance", bank.balance(0), 175);
        due("due", bank.receipt(0, 4), 180);
    }

    private static void orders(CityBank bank) {
        due("order", bank.order(0, 1, 50, 9, 0), 0);
        due("slip", bank.slip(0, 0, 0), 0);
        due("close", bank.close(), 1);
        due("balance", bank.balance(1), 50);
        due("written", bank.written(1), 0);
        due("suspects", bank.suspects(0), 1);
        due("suspect", bank.suspect(0, 0), 1);
        due("the debit", bank.line(1, 3), 0);
        due("mend", bank.mend(0) ? 1 : 0, 1);
        due("suspects", bank.suspects(0), CityBank.NONE);
    }

    private static void vault(CityBank bank) {
        due("loan", bank.loan(0, 1, 1 << 3), 0);
        due("gap of 3", bank.gap(3, 1), 87);
        due("gap of 4", bank.gap(4, 1), 0);
        due("run", bank.run(10), 9);
        due("redeem", bank.redeem(0), -7);
    }
}
