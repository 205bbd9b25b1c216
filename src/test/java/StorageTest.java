/** Promises 10 to 13: storage, keys, logged, log; the instructions 18, 19 and 25. */
public final class StorageTest {
    // stores argument 1 for the key that argument 0 tells
    private static final int[] WRITER = {Check.push(0), 20, Check.push(1), 20, 19};
    private static final int WRITER_FEES = 4;

    public static void main(String[] args) {
        keysOfAllKinds();
        pricesOfStores();
        loads();
        fullStorage();
        fullStorageWithinOneTransaction();
        log();
        fullLogUndone();
        Check.finish();
    }

    private static int write(CallLedger x, int account, int key, int number, int gas) {
        x.argument(key);
        x.argument(number);
        return x.transact(account, account, 0, gas);
    }

    private static void keysOfAllKinds() {
        CallLedger x = new CallLedger();
        Check.account(x, 0, WRITER);
        Check.account(x, 0, WRITER);
        int[] keys = {0, 1, -1, Integer.MAX_VALUE, Integer.MIN_VALUE, 65536, -65536};
        for (int account = 0; account < 2; account++) {
            for (int i = 0; i < keys.length; i++) {
                Check.due("write", write(x, account, keys[i], 100 * account - i - 1, 100), 0);
                Check.due("keys", x.keys(), account * keys.length + i + 1);
            }
        }
        for (int account = 0; account < 2; account++) {
            for (int i = 0; i < keys.length; i++) {
                Check.due("storage", x.storage(account, keys[i]), 100 * account - i - 1);
            }
            Check.due("storage of another key", x.storage(account, 2), 0);
        }
        for (int i = 0; i < keys.length; i++) {
            Check.due("write 0", write(x, 0, keys[i], 0, 100), 0);
            Check.due("keys are fewer", x.keys(), 2 * keys.length - 1 - i);
            Check.due("storage is 0", x.storage(0, keys[i]), 0);
            Check.due("the other account's is not", x.storage(1, keys[i]), 99 - i);
        }
        Check.dueThrow("storage of none", IndexOutOfBoundsException.class, () -> x.storage(2, 0));
        Check.dueThrow("storage of -1", IndexOutOfBoundsException.class, () -> x.storage(-1, 0));
    }

    private static void costs(CallLedger x, int number, int price) {
        int before = x.storage(0, 5);
        String name = "storing " + number + " where " + before + " was";
        Check.due(name + ", too little gas", write(x, 0, 5, number, WRITER_FEES + price - 1), 2);
        Check.due(name + ", nothing changed", x.storage(0, 5), before);
        Check.due(name, write(x, 0, 5, number, 100), 0);
        Check.due(name + " uses", x.used(), WRITER_FEES + price);
        Check.due(name + " changes", x.storage(0, 5), number);
    }

    private static void pricesOfStores() {
        CallLedger x = new CallLedger();
        Check.account(x, 0, WRITER);
        costs(x, 0, 5);
        costs(x, 3, 40);
        costs(x, 3, 5);
        costs(x, 4, 20);
        costs(x, 0, 20);
        costs(x, 0, 5);
        costs(x, -1, 40);
    }

    private static void loads() {
        CallLedger x = new CallLedger();
        int[] code = Check.join(WRITER, Check.row(Check.push(0), 20, 18, 26));
        int account = Check.account(x, 0, code);
        int other = Check.account(x, 0, Check.row(Check.push(9), 18, 26));
        write(x, account, 9, 77, 100);
        Check.due("load", x.result(), 77);
        Check.due("load costs", x.used(), WRITER_FEES + 40 + 2 + 10 + 1);
        x.transact(other, other, 0, 50);
        Check.due("load of another account", x.result(), 0);
    }

    // stores 1 for as many keys as argument 1 tells, from argument 0 downwards
    private static final int[] FILLER = {
        Check.push(0), 20, Check.push(1), 20,
        Check.word(3, 0), 12, Check.word(17, 17),
        Check.word(3, 1), Check.push(1), 19,
        Check.push(1), 6, Check.word(4, 1), Check.push(1), 6, Check.word(4, 1), Check.word(16, 4)
    };

    private static CallLedger filledTo(int most) {
        CallLedger x = new CallLedger();
        int[] accounts = {Check.account(x, 0, FILLER), Check.account(x, 0, FILLER)};
        int left = most;
        for (int i = 0; left > 0; i++) {
            int part = Math.min(left, 150);
            Check.due("fill", write(x, accounts[i % 2], 1000 * i, part, 10000), 0);
            left -= part;
        }
        Check.due("filled", x.keys(), most);
        return x;
    }

    private static void fullStorage() {
        CallLedger x = filledTo(500);
        int writer = Check.account(x, 0, WRITER);
        Check.due("a key more", write(x, writer, 1, 1, 44), 6);
        Check.due("all gas is gone", x.used(), 44);
        Check.due("the result", x.result(), 0);
        Check.due("a key more without gas", write(x, writer, 1, 1, 43), 2);
        Check.due("0 where 0 was", write(x, writer, 1, 0, 100), 0);
        Check.due("keys", x.keys(), 500);
        Check.due("a key of the first fill", x.storage(0, -149), 1);
        Check.due("behind it", x.storage(0, -150), 0);
        Check.due("fill over what is there", write(x, 1, 1000, 150, 10000), 0);
        Check.due("an account that is full goes on", x.keys(), 500);

        CallLedger y = filledTo(499);
        int other = Check.account(y, 0, WRITER);
        Check.due("the last key", write(y, other, 1, 1, 44), 0);
        Check.due("it may change", write(y, other, 1, 2, 44), 0);
        Check.due("one more", write(y, other, 2, 1, 44), 6);
        Check.due("it may go", write(y, other, 1, 0, 44), 0);
        Check.due("room again", write(y, other, 2, 1, 44), 0);
        Check.due("keys at the end", y.keys(), 500);
    }

    private static void fullStorageWithinOneTransaction() {
        CallLedger x = filledTo(450);
        Check.due("fifty more", write(x, 0, 90000, 50, 10000), 0);
        Check.due("they go", x.keys(), 500);
        CallLedger y = filledTo(450);
        Check.due("fifty-one more", write(y, 0, 90000, 51, 10000), 6);
        Check.due("none came", y.keys(), 450);
        Check.due("nor is it there", y.storage(0, 90000), 0);
        Check.due("an old one is", y.storage(0, 0), 1);
    }

    private static void log() {
        CallLedger x = new CallLedger();
        x.open(0);
        Check.dueThrow("log of nothing", IndexOutOfBoundsException.class, () -> x.log(0));
        int logger = Check.account(x, 0, Check.times(50, Check.push(0), 20, 25));
        for (int i = 1; i <= 7; i++) {
            x.argument(10 * i);
            Check.due("log fifty", x.transact(0, logger, 0, 10000), 0);
            Check.due("logging costs the same when full", x.used(), 500);
            Check.due("logged", x.logged(), Math.min(50 * i, 300));
        }
        for (int i = 0; i < 300; i++) {
            Check.due("log " + i, x.log(i), 10 * (i / 50 + 1));
        }
        Check.dueThrow("log(300)", IndexOutOfBoundsException.class, () -> x.log(300));
        Check.dueThrow("log(-1)", IndexOutOfBoundsException.class, () -> x.log(-1));
        Check.dueThrow("log(MIN)", IndexOutOfBoundsException.class, () -> x.log(Integer.MIN_VALUE));
    }

    private static void fullLogUndone() {
        CallLedger x = new CallLedger();
        int[] last = Check.row(Check.push(0), 20, Check.word(17, 104), 0, Check.push(5), 29);
        int logger = Check.account(x, 0, Check.join(Check.times(50, 28, 25), last));
        for (int i = 0; i < 5; i++) {
            x.transact(logger, logger, 0, 10000);
        }
        Check.due("logged", x.logged(), 250);
        x.argument(1);
        Check.due("reverted", x.transact(logger, logger, 0, 9000), 1);
        Check.due("logged as before", x.logged(), 250);
        Check.dueThrow("log(250)", IndexOutOfBoundsException.class, () -> x.log(250));
        Check.due("an old one", x.log(249), 9999 - 49 * 9);
        x.transact(logger, logger, 0, 9000);
        Check.due("full", x.logged(), 300);
        x.argument(1);
        x.transact(logger, logger, 0, 8000);
        Check.due("stays full", x.logged(), 300);
        Check.due("the last kept", x.log(299), 8999 - 49 * 9);
    }
}
