/** Accounts and their balances: promises 1, 2, 9 and 14, and what "Terms" says of accounts. */
public final class AccountsTest extends Bench {
    private static final int[] NO_ACCOUNTS = {MIN, -1, 3, 4, 23, 24, MAX};

    public static void main(String[] args) {
        aNewObject();
        objectsAreApart();
        numbersFromZeroOn();
        atMost24();
        aNewAccountIsEmpty();
        balanceBelowZero();
        allBalancesTogether();
        allBalancesTogetherBehindTransactions();
        noSuchAccount();
        balanceDownToZero();
        balanceUpToAll();
        supplyStays();
        fiveHundredAndTwelveCalls();
        finish();
    }

    private static void aNewObject() {
        sentence("No accounts, an empty log");
        CallLedger x = new CallLedger();
        due("NONE", CallLedger.NONE, -1);
        outOfBounds("balance(0)", () -> x.balance(0));
        outOfBounds("storage(0, 0)", () -> x.storage(0, 0));
        outOfBounds("code(0, 0)", () -> x.code(0, 0));
        outOfBounds("seal(0)", () -> x.seal(0));
        outOfBounds("transact(0, 0, 0, 0)", () -> x.transact(0, 0, 0, 0));
        outOfBounds("log(0)", () -> x.log(0));
        due("logged()", x.logged(), 0);
        due("keys()", x.keys(), 0);
        due("supply()", x.supply(), 0);
        due("used()", x.used(), 0);
        due("result()", x.result(), 0);
        due("the first argument", x.argument(7), 1);
        due("the first account", x.open(0), 0);
    }

    private static void objectsAreApart() {
        sentence("No accounts, an empty log");
        CallLedger full = new CallLedger();
        account(full, 10, logging(push(1), push(2), STORE, push(9), RETURN));
        full.argument(3);
        due("one object's transaction", full.transact(0, 0, 0, 500), 0);
        full.argument(4);
        CallLedger x = new CallLedger();
        due("another object", state(x, 1), "supply 0 keys 0 log used 0 result 0");
        due("its first argument", x.argument(1), 1);
        due("its first account", x.open(5), 0);
        due("its first word", x.code(0, END), 1);
        due("the first object stays", state(full, 1),
                "10:2, supply 10 keys 1 log 3 2 1 used " + full.used() + " result 9");
    }

    private static void numbersFromZeroOn() {
        sentence("ACCOUNTS have numbers from 0 on");
        CallLedger x = new CallLedger();
        for (int i = 0; i < 4; i++) {
            int account = i;
            outOfBounds("balance of " + i + " before open", () -> x.balance(account));
            due("open", x.open(10 + i), i);
            due("balance of " + i, x.balance(i), 10 + i);
        }
    }

    private static void atMost24() {
        sentence("NONE when there are 24");
        CallLedger x = new CallLedger();
        for (int i = 0; i < 24; i++) {
            due("open of number " + i, x.open(i), i);
        }
        due("a 25th account", x.open(0), NONE);
        due("a 25th account with a balance", x.open(5), NONE);
        due("a 25th account with too much", x.open(MAX), NONE);
        outOfBounds("balance of a 25th", () -> x.balance(24));
        for (int i = 0; i < 24; i++) {
            due("balance of " + i, x.balance(i), i);
        }
        due("supply()", x.supply(), 276);
        sentence("Exceptions come before NONE");
        wrongArgument("a 25th account with -1", () -> x.open(-1));
    }

    private static void aNewAccountIsEmpty() {
        sentence("An account more, with a balance, an empty code and storage");
        CallLedger x = filledTo(150);
        int last = x.open(77);
        due("its balance", x.balance(last), 77);
        due("storage for 0", x.storage(last, 0), 0);
        due("storage for a key that another one has", x.storage(last, -10), 0);
        due("a transaction to it", x.transact(last, last, 0, 0), 0);
        due("its first word", x.code(last, END), 1);
    }

    private static void balanceBelowZero() {
        sentence("IllegalArgumentException: balance is below 0");
        CallLedger x = new CallLedger();
        wrongArgument("open(-1)", () -> x.open(-1));
        wrongArgument("open(MIN)", () -> x.open(MIN));
        due("open(0)", x.open(0), 0);
        due("its balance", x.balance(0), 0);
        due("open(1)", x.open(1), 1);
        due("its balance", x.balance(1), 1);
        due("open(MAX - 1)", x.open(MAX - 1), 2);
        sentence("Exceptions come before NONE");
        wrongArgument("open(-1) when all have 2147483647", () -> x.open(-1));
        wrongArgument("open(MIN) when all have 2147483647", () -> x.open(MIN));
    }

    private static void allBalancesTogether() {
        sentence("all balances together would be above 2147483647");
        CallLedger x = new CallLedger();
        due("open(MAX)", x.open(MAX), 0);
        due("one above", x.open(1), NONE);
        due("so far above that an int wraps", x.open(MAX), NONE);
        due("nothing more", x.open(0), 1);
        due("supply()", x.supply(), MAX);

        CallLedger y = new CallLedger();
        y.open(MAX - 1);
        due("one above MAX", y.open(2), NONE);
        due("just MAX", y.open(1), 1);
        due("supply()", y.supply(), MAX);

        CallLedger z = new CallLedger();
        z.open(1000000000);
        z.open(1000000000);
        due("a third one above", z.open(147483648), NONE);
        due("a third one to MAX", z.open(147483647), 2);
        due("a fourth above", z.open(1), NONE);
        due("a fourth with nothing", z.open(0), 3);
        due("supply()", z.supply(), MAX);
        lastAccountTakesTheRest();
    }

    private static void lastAccountTakesTheRest() {
        CallLedger x = new CallLedger();
        for (int i = 0; i < 23; i++) {
            x.open(90000000);
        }
        due("the 24th above", x.open(77483648), NONE);
        due("the 24th to MAX", x.open(77483647), 23);
        due("supply()", x.supply(), MAX);
    }

    private static void allBalancesTogetherBehindTransactions() {
        CallLedger x = new CallLedger();
        x.open(MAX - 5);
        x.open(0);
        due("all but a few go", x.transact(0, 1, MAX - 9, 0), 0);
        due("one above MAX", x.open(6), NONE);
        due("just MAX", x.open(5), 2);
    }

    private static void noSuchAccount() {
        sentence("IndexOutOfBoundsException: there is no such account");
        CallLedger x = new CallLedger();
        x.open(5);
        x.open(6);
        x.open(7);
        for (int account : NO_ACCOUNTS) {
            outOfBounds("balance(" + account + ")", () -> x.balance(account));
            outOfBounds("storage(" + account + ", 0)", () -> x.storage(account, 0));
            outOfBounds("code(" + account + ", 0)", () -> x.code(account, 0));
            outOfBounds("seal(" + account + ")", () -> x.seal(account));
            outOfBounds("transact from " + account, () -> x.transact(account, 0, 0, 0));
            outOfBounds("transact to " + account, () -> x.transact(0, account, 0, 0));
        }
        due("balance(0)", x.balance(0), 5);
        due("balance(2)", x.balance(2), 7);
        due("storage(2, 0)", x.storage(2, 0), 0);
        due("code(2, 0)", x.code(2, 0), 1);
        due("seal(2)", x.seal(2), NONE);
        due("transact(2, 0, 7, 0)", x.transact(2, 0, 7, 0), 0);
        due("transact(0, 2, 12, 1)", x.transact(0, 2, 12, 1), 0);
    }

    private static void balanceDownToZero() {
        sentence("a BALANCE, not below 0");
        CallLedger x = new CallLedger();
        x.open(3);
        x.open(0);
        due("all of it", x.transact(0, 1, 3, 0), 0);
        due("nothing is left", x.balance(0), 0);
        wrongArgument("one more", () -> x.transact(0, 1, 1, 0));
        due("nothing of nothing", x.transact(0, 1, 0, 0), 0);
        due("nothing is left", x.balance(0), 0);
        due("the other has all", x.balance(1), 3);
    }

    private static void balanceUpToAll() {
        sentence("An account's balance");
        CallLedger x = new CallLedger();
        x.open(MAX - 47);
        x.open(47);
        due("all of it goes", x.transact(0, 1, MAX - 47, 0), 0);
        due("the one has nothing", x.balance(0), 0);
        due("the other has all", x.balance(1), MAX);
        due("all of it to itself", x.transact(1, 1, MAX, 0), 0);
        due("it still has all", x.balance(1), MAX);
    }

    private static void supplyStays() {
        sentence("All balances together");
        CallLedger x = new CallLedger();
        x.open(1000);
        due("of one", x.supply(), 1000);
        int back = account(x, 20, push(5), REVERT);
        int giver = account(x, 3, call(0, 2, 0), call(back, 1, 50));
        due("of three", x.supply(), 1023);
        x.transact(0, back, 7, 100);
        due("behind a reverted transaction", x.supply(), 1023);
        due("a transaction with calls", x.transact(0, giver, 7, 500), 0);
        due("behind calls", x.supply(), 1023);
        due("a refused account", x.open(MAX), NONE);
        due("behind a refused account", x.supply(), 1023);
    }

    private static void fiveHundredAndTwelveCalls() {
        sentence("An object is used for at most 512 calls");
        CallLedger x = new CallLedger();
        int[] words = code(push(1), copy(0), GAS, STORE, push(1), ADD, copy(0), jumpIf(1));
        x.open(1);
        for (int word : words) {
            x.code(0, word);
        }
        x.seal(0);
        for (int calls = words.length + 2; calls < 511; calls++) {
            due("call " + (calls + 1), x.transact(0, 0, 1, 10000), 2);
        }
        due("call 512", x.used(), 10000);
    }
}
