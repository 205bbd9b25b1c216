/** Storage: promises 10 and 11, and the instructions 18 and 19. */
public final class StorageTest extends Bench {
    // an account that isn't filled, opened behind the two that are
    private static final int WRITES = 2;

    public static void main(String[] args) {
        zeroAtFirst();
        keysAndNumbersAreInts();
        storagesAreApart();
        loads();
        valueAndThenKey();
        pricesOfStores();
        priceWithFewerThanTwo();
        keysInAllAccounts();
        fullOf500();
        eachOf500();
        oneBelow500();
        paidAndTheStackLookedAt();
        fullWithinOneTransaction();
        roomAgainWithinOneTransaction();
        manyKeysInManyOrders();
        manyStoresOfTheSame();
        finish();
    }

    private static void zeroAtFirst() {
        sentence("a number for each key (both ints), 0 at first");
        CallLedger x = new CallLedger();
        account(x, 0, push(0), ARGUMENT, LOAD, RETURN);
        for (int key : new int[] {MIN, -1, 0, 1, MAX}) {
            due("storage for " + key, x.storage(0, key), 0);
            x.argument(key);
            due("transact", x.transact(0, 0, 0, 50), 0);
            due("loaded for " + key, x.result(), 0);
        }
        due("keys()", x.keys(), 0);
    }

    private static void keysAndNumbersAreInts() {
        sentence("a number for each key (both ints), 0 at first");
        CallLedger x = new CallLedger();
        account(x, 0, WRITER, push(0), ARGUMENT, LOAD, RETURN);
        int[] keys = {MIN, MIN + 1, -65536, -1, 0, 1, 65536, MAX - 1, MAX};
        int[] numbers = {MAX, 1, -1, MIN, 7, MIN + 1, MAX - 1, -7, 2};
        for (int i = 0; i < keys.length; i++) {
            due("write", write(x, 0, keys[i], numbers[i], 100), 0);
            due("loaded", x.result(), numbers[i]);
            due("keys()", x.keys(), i + 1);
        }
        for (int i = 0; i < keys.length; i++) {
            due("storage for " + keys[i], x.storage(0, keys[i]), numbers[i]);
        }
        due("storage for another key", x.storage(0, 2), 0);
    }

    private static void storagesAreApart() {
        sentence("What an account's storage has for a key");
        CallLedger x = new CallLedger();
        account(x, 0, WRITER);
        account(x, 0, WRITER);
        account(x, 0);
        int[] keys = {MIN, -1, 0, 1, MAX};
        for (int key : keys) {
            write(x, 0, key, 10, 100);
            write(x, 1, key, 20, 100);
        }
        for (int key : keys) {
            due("of 0 for " + key, x.storage(0, key), 10);
            due("of 1 for " + key, x.storage(1, key), 20);
            due("of 2 for " + key, x.storage(2, key), 0);
            outOfBounds("of -1", () -> x.storage(-1, key));
            outOfBounds("of 3", () -> x.storage(3, key));
        }
    }

    private static void loads() {
        sentence("18 a key is popped, and what the account's storage has for it pushed");
        CallLedger x = new CallLedger();
        account(x, 0, WRITER, push(0), ARGUMENT, LOAD, RETURN);
        int other = account(x, 0, push(9), LOAD, RETURN);
        due("write and load", write(x, 0, 9, 77, 100), 0);
        due("what it loads", x.result(), 77);
        due("its price", x.used(), 4 + 40 + 2 + 10 + 1);
        due("another account's load", x.transact(0, other, 0, 50), 0);
        due("what it loads", x.result(), 0);
        due("a load has not made a key", x.keys(), 1);
    }

    private static void valueAndThenKey() {
        sentence("19: a value and a key are popped");
        CallLedger x = new CallLedger();
        account(x, 0, push(3), push(8), STORE);
        due("transact", x.transact(0, 0, 0, 100), 0);
        due("the value was the top", x.storage(0, 3), 8);
        due("the key was below it", x.storage(0, 8), 0);
    }

    private static void costs(CallLedger x, int number, int price) {
        int before = x.storage(0, 5);
        String name = number + " where " + before + " was";
        due(name + ", 1 too little", write(x, 0, 5, number, 4 + price - 1), 2);
        due(name + ", nothing changed", x.storage(0, 5), before);
        due(name + ", just enough", write(x, 0, 5, number, 4 + price), 0);
        due(name + ", used", x.used(), 4 + price);
        due(name + ", storage", x.storage(0, 5), number);
        due(name + ", keys", x.keys(), number == 0 ? 0 : 1);
    }

    private static void pricesOfStores() {
        sentence("else 20, and 20 more if it had 0");
        CallLedger x = new CallLedger();
        account(x, 0, WRITER);
        costs(x, 0, 5);
        costs(x, 3, 40);
        costs(x, 3, 5);
        costs(x, 4, 20);
        costs(x, MIN, 20);
        costs(x, MIN, 5);
        costs(x, 0, 20);
        costs(x, 0, 5);
        costs(x, -1, 40);
        costs(x, 1, 20);
    }

    private static void priceWithFewerThanTwo() {
        sentence("(or there are fewer than two on the stack)");
        runs("none, 4", code(STORE), 4, 2, 0, 4);
        runs("none, 5", code(STORE), 5, 3, 0, 5);
        runs("one, 4", code(push(9), STORE), 5, 2, 0, 5);
        runs("one, 5", code(push(9), STORE), 6, 3, 0, 6);
        runs("two, 39", code(push(9), push(9), STORE), 41, 2, 0, 41);
        runs("two, 40", code(push(9), push(9), STORE), 42, 0, 0, 42);
    }

    private static void keysInAllAccounts() {
        sentence("How many keys have other numbers than 0, in all accounts");
        CallLedger x = new CallLedger();
        account(x, 0, WRITER);
        account(x, 0, WRITER);
        // account, key, number, keys then
        int[][] steps = {{0, 1, 5, 1}, {1, 1, 5, 2}, {0, 2, -5, 3}, {0, 1, 6, 3}, {0, 1, 6, 3},
            {0, 1, 0, 2}, {0, 1, 0, 2}, {0, 7, 0, 2}, {1, 2, 0, 2}, {1, 1, 0, 1}, {0, 2, 0, 0}, {0, 1, 1, 1}};
        for (int[] one : steps) {
            due("write", write(x, one[0], one[1], one[2], 100), 0);
            due("keys()", x.keys(), one[3]);
        }
    }

    private static void fullOf500() {
        sentence("there are 500 keys with other numbers than 0 in all accounts");
        CallLedger x = filledTo(500);
        account(x, 0, WRITER);
        due("a key more, of a third account", write(x, WRITES, 1, 1, 100), 6);
        due("all gas is gone", x.used(), 100);
        due("the result", x.result(), 0);
        due("it has not come", x.storage(WRITES, 1), 0);
        due("a key more, of one that has keys", write(x, 0, 500, 1, 10000), 6);
        due("0 for a key that has 0", write(x, WRITES, 1, 0, 9), 0);
        due("it costs 5", x.used(), 9);
        due("the same for keys that are there", write(x, 1, 1000, 150, 10000), 0);
        due("keys()", x.keys(), 500);
        due("the first key", x.storage(0, 0), 150);
        due("the last key of a part", x.storage(0, -149), 1);
        due("behind it", x.storage(0, -150), 0);
        due("the first key of the last part", x.storage(1, 3000), 50);
        due("the last key of the last part", x.storage(1, 3000 - 49), 1);
        due("behind it", x.storage(1, 3000 - 50), 0);
    }

    /** Two objects, so that each is asked for half of the keys in fewer than 512 calls. */
    private static void eachOf500() {
        sentence("What an account's storage has for a key");
        for (int half = 0; half < 2; half++) {
            CallLedger x = filledTo(500);
            for (int i = half; i < 500; i += 2) {
                int part = i / 150;
                int account = part % 2;
                int key = 1000 * part - i % 150;
                int want = (part == 3 ? 50 : 150) - i % 150;
                due("storage of " + account + " for " + key, x.storage(account, key), want);
            }
        }
    }

    private static void oneBelow500() {
        sentence("If it had 0 and gets another number");
        CallLedger x = filledTo(499);
        account(x, 0, WRITER);
        due("the 500th key", write(x, WRITES, 1, 1, 44), 0);
        due("keys()", x.keys(), 500);
        due("a 501st", write(x, WRITES, 2, 1, 44), 6);
        due("another number for the 500th", write(x, WRITES, 1, 2, 24), 0);
        due("its number", x.storage(WRITES, 1), 2);
        due("the same number for the 500th", write(x, WRITES, 1, 2, 9), 0);
        due("0 for the 500th", write(x, WRITES, 1, 0, 24), 0);
        due("keys()", x.keys(), 499);
        due("another 500th", write(x, WRITES, 2, 1, 44), 0);
        due("keys()", x.keys(), 500);
        due("the one that went, again", write(x, WRITES, 1, 1, 44), 6);
        due("it has not come", x.storage(WRITES, 1), 0);
    }

    private static void paidAndTheStackLookedAt() {
        sentence("the trap is 6 (paid, the stack looked at, nothing else done)");
        CallLedger x = filledTo(500);
        account(x, 0, WRITER);
        int one = account(x, 0, push(1), STORE);
        int none = account(x, 0, STORE);
        due("a key more, 39 for it", write(x, WRITES, 1, 1, 43), 2);
        due("a key more, 40 for it", write(x, WRITES, 1, 1, 44), 6);
        due("all is used", x.used(), 44);
        due("one number on the stack", x.transact(0, one, 0, 100), 3);
        due("no number on the stack", x.transact(0, none, 0, 100), 3);
        due("nothing is stored", x.storage(WRITES, 1), 0);
        due("keys()", x.keys(), 500);
    }

    private static void fullWithinOneTransaction() {
        sentence("there are 500 keys with other numbers than 0 in all accounts");
        CallLedger x = filledTo(450);
        due("50 more", write(x, 0, 90000, 50, 10000), 0);
        due("keys()", x.keys(), 500);
        CallLedger y = filledTo(450);
        due("51 more", write(y, 0, 90000, 51, 10000), 6);
        due("keys()", y.keys(), 450);
        due("the first of them", y.storage(0, 90000), 0);
        due("the 50th of them", y.storage(0, 90000 - 49), 0);
        due("an old one", y.storage(0, 0), 150);
        due("the last old one", y.storage(0, 2000 - 149), 1);
    }

    private static void roomAgainWithinOneTransaction() {
        sentence("there are 500 keys with other numbers than 0 in all accounts");
        CallLedger x = filledTo(499);
        int swaps = account(x, 0, push(1), push(1), STORE, push(1), push(0), STORE, push(2), push(7), STORE);
        due("one comes and goes, another comes", x.transact(0, swaps, 0, 200), 0);
        due("the one", x.storage(swaps, 1), 0);
        due("the other", x.storage(swaps, 2), 7);
        due("keys()", x.keys(), 500);
        due("again, there is no room for the one", x.transact(0, swaps, 0, 200), 6);
        due("keys()", x.keys(), 500);
        due("the other stays", x.storage(swaps, 2), 7);
    }

    /** Keys come from above, below and between, and go again from the middle and the ends. */
    private static void manyKeysInManyOrders() {
        sentence("the storage has the value for the key then");
        CallLedger x = new CallLedger();
        account(x, 0, WRITER);
        int[] keys = {50, -50, 0, 25, -25, 75, -75, 49, 51, -1, 1};
        for (int i = 0; i < keys.length; i++) {
            write(x, 0, keys[i], 100 + i, 100);
            for (int j = 0; j < keys.length; j++) {
                due("storage for " + keys[j], x.storage(0, keys[j]), j <= i ? 100 + j : 0);
            }
        }
        for (int i = keys.length - 1; i >= 0; i -= 2) {
            write(x, 0, keys[i], 0, 100);
            for (int j = 0; j < keys.length; j++) {
                boolean isGone = j >= i && (j - i) % 2 == 0;
                due("storage for " + keys[j], x.storage(0, keys[j]), isGone ? 0 : 100 + j);
            }
        }
        due("keys()", x.keys(), keys.length / 2);
    }

    private static void manyStoresOfTheSame() {
        sentence("5 if it has that already");
        CallLedger x = new CallLedger();
        account(x, 0, push(15), times(40, push(1), push(7), STORE), push(1), SUBTRACT, copy(0), jumpIf(1),
                push(2), push(9), STORE);
        due("600 stores of the same, and one of another", x.transact(0, 0, 0, 10000), 0);
        due("used", x.used(), 1 + 35 + 15 * (40 * 7 + 5) + 42);
        due("the same", x.storage(0, 1), 7);
        due("the other", x.storage(0, 2), 9);
        due("keys()", x.keys(), 2);
    }
}
