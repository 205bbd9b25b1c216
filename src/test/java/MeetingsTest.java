/** Where one sentence of the document meets another one. */
public final class MeetingsTest extends Bench {
    public static void main(String[] args) {
        toItselfInEveryEnding();
        toItselfByItsOwnCode();
        ownCodeSendsAllToItself();
        failedWithinReverted();
        trapTakesOnlyWhatItWasGiven();
        fullLogInEveryEnding();
        fullLogWithin();
        zeroAndAnotherNumberAgain();
        zeroAndAnotherNumberUndone();
        zeroAndAnotherNumberOf500();
        finish();
    }

    /** What ends a run with the ending 0, 1, 2, 3 or 4, put at this place, where the stack is empty. */
    private static int[][] endingsFrom(int place) {
        return new int[][] {{push(9), RETURN}, {push(9), REVERT}, {jump(place)}, {DROP}, {push(1), jump(place)}};
    }

    private static void toItselfInEveryEnding() {
        sentence("from one account to another one (perhaps the same)");
        int[][] endings = endingsFrom(6);
        for (int i = 0; i < endings.length; i++) {
            CallLedger x = new CallLedger();
            x.open(3);
            int self = account(x, 9, SELF, BALANCE, LOG, CALLER, push(7), STORE, endings[i]);
            due("transact", x.transact(self, self, 9, 500), i);
            String did = i == 0 ? "3:0, 9:7, supply 12 keys 1 log 9" : "3:0, 9:0, supply 12 keys 0 log";
            due("the ending " + i, state(x, self), did + " used " + x.used() + " result " + (i < 2 ? 9 : 0));
        }
    }

    private static void toItselfByItsOwnCode() {
        sentence("from one account to another one (perhaps the same)");
        CallLedger x = new CallLedger();
        // without an argument: calls itself with all it has and argument 1; else reverts with its balance
        int self = account(x, 9, push(0), ARGUMENT, jumpIf(11),
                push(1), push(300), SELF, BALANCE, SELF, word(27, 1), DROP, RETURN, SELF, BALANCE, REVERT);
        due("all of it, to itself", x.transact(self, self, 9, 1000), 0);
        due("what the run within saw", x.result(), 9);
        due("its balance", x.balance(self), 9);
        x.argument(1);
        due("all of it, to itself, and it reverts", x.transact(self, self, 9, 1000), 1);
        due("what it saw", x.result(), 9);
        due("its balance", x.balance(self), 9);
    }

    /** Eight runs of one code; the call of the eighth is refused, so that seven amounts go. */
    private static void ownCodeSendsAllToItself() {
        sentence("the run is the eighth one, each within the one before");
        CallLedger x = new CallLedger();
        x.open(4);
        int self = account(x, 5, VALUE, LOG, push(9000), SELF, BALANCE, SELF, word(27, 0), ADD, push(1), ADD, RETURN);
        due("transact", x.transact(0, self, 2, 10000), 0);
        due("the runs, and how many of them ended a call well", x.result(), 8 + 7);
        due("the first one's value, and seven times all", state(x),
                "2: 7: supply 9 keys 0 log 2 7 7 7 7 7 7 7 used " + x.used() + " result 15");
    }

    private static void failedWithinReverted() {
        sentence("all that it and the runs within it did (balances, storage, log, v, too) is undone");
        int[][] endings = endingsFrom(5);
        for (int i = 0; i < endings.length; i++) {
            CallLedger x = new CallLedger();
            x.open(10);
            int last = account(x, 1, push(1), push(5), STORE, push(3), LOG, endings[i]);
            int middle = account(x, 2, push(1), push(6), STORE, call(last, 2, 500), push(4), LOG, REVERT);
            int first = account(x, 3, push(1), push(7), STORE, call(middle, 3, 2000), LOG, LOG);
            due("transact", x.transact(0, first, 10, 9000), 0);
            due("well, reverted, and the ending " + i, state(x, 1), "0:0, 1:0, 2:0, 13:7, supply 16 keys 1 log 0 "
                    + (i == 0 ? 1 : 0) + " used " + x.used() + " result 0");
        }
    }

    private static void trapTakesOnlyWhatItWasGiven() {
        sentence("its gas comes back, 0 with a trap");
        int[][] endings = endingsFrom(0);
        for (int i = 0; i < endings.length; i++) {
            CallLedger x = new CallLedger();
            int last = account(x, 0, endings[i]);
            int middle = account(x, 0, call(last, 0, 100), REVERT);
            int first = account(x, 0, call(middle, 0, 1000), GAS, RETURN);
            due("transact", x.transact(0, first, 0, 2000), 0);
            int lastNeeds = i < 2 ? 2 : 100;
            due("left behind the ending " + i + " within one that reverts", x.result(),
                    2000 - 28 - 28 - lastNeeds - 1 - 1);
        }
    }

    private static CallLedger withFullLog() {
        CallLedger x = new CallLedger();
        account(x, 6, logging());
        x.argument(300);
        due("300 numbers", x.transact(0, 0, 0, 10000), 0);
        return x;
    }

    private static void dueFullLog(CallLedger x) {
        due("logged()", x.logged(), 300);
        for (int i : new int[] {0, 1, 149, 298, 299}) {
            due("log(" + i + ")", x.log(i), 300 - i);
        }
        outOfBounds("log(300)", () -> x.log(300));
    }

    private static void fullLogInEveryEnding() {
        sentence("the first 300 are kept, others are lost");
        int[][] endings = endingsFrom(2);
        for (int i = 0; i < endings.length; i++) {
            CallLedger x = withFullLog();
            int one = account(x, 0, push(77), LOG, endings[i]);
            due("a transaction with the ending " + i, x.transact(0, one, 1, 500), i);
            due("the amount", x.balance(one), i == 0 ? 1 : 0);
            dueFullLog(x);
        }
    }

    private static void fullLogWithin() {
        sentence("the first 300 are kept, others are lost");
        int[][] endings = endingsFrom(2);
        for (int i = 0; i < endings.length; i++) {
            CallLedger x = withFullLog();
            int inner = account(x, 0, push(77), LOG, endings[i]);
            int outer = account(x, 0, push(88), LOG, call(inner, 0, 500), push(99), LOG, RETURN);
            due("transact", x.transact(0, outer, 0, 2000), 0);
            due("whether the ending " + i + " is well", x.result(), i == 0 ? 1 : 0);
            dueFullLog(x);
        }
    }

    /** Tells the gas before and behind each of the stores for the key 1, by the log. */
    private static int[] stores(int... numbers) {
        int[] all = {GAS, LOG};
        for (int number : numbers) {
            all = code(all, push(1), push(number), STORE, GAS, LOG);
        }
        return all;
    }

    private static void duePrices(CallLedger x, int... prices) {
        due("logged()", x.logged(), prices.length + 1);
        for (int i = 0; i < prices.length; i++) {
            // beside the store, a LOG, two pushes and a GAS are paid
            due("price of store " + i, x.log(i) - x.log(i + 1) - 8 - 3, prices[i]);
        }
    }

    private static void zeroAndAnotherNumberAgain() {
        sentence("else 20, and 20 more if it had 0");
        CallLedger x = new CallLedger();
        account(x, 0, stores(5, 0, 0, 5, 6, 0, 7));
        due("in one run", x.transact(0, 0, 0, 1000), 0);
        duePrices(x, 40, 20, 5, 40, 20, 20, 40);
        due("its number", x.storage(0, 1), 7);
        due("keys()", x.keys(), 1);
    }

    private static void zeroAndAnotherNumberUndone() {
        sentence("all that it and the runs within it did (balances, storage, log, v, too) is undone");
        CallLedger x = new CallLedger();
        // with an argument, which it gives to itself, it goes on at this place and reverts
        int within = 29;
        int self = account(x, 0, push(0), ARGUMENT, jumpIf(within),
                push(1), push(5), STORE, push(1), push(900), push(0), SELF, word(27, 1), stores(5, 0, 8), END,
                push(1), push(0), STORE, push(1), push(6), STORE, push(1), push(0), STORE, push(3), REVERT);
        due("transact", x.transact(self, self, 0, 3000), 0);
        duePrices(x, 5, 20, 40);
        due("its number", x.storage(self, 1), 8);
        due("keys()", x.keys(), 1);
    }

    private static void zeroAndAnotherNumberOf500() {
        sentence("there are 500 keys with other numbers than 0 in all accounts");
        CallLedger x = filledTo(499);
        int one = account(x, 0, stores(5, 0, 6, 7, 0, 8));
        due("the 500th goes and comes", x.transact(0, one, 0, 1000), 0);
        duePrices(x, 40, 20, 40, 20, 20, 40);
        due("keys()", x.keys(), 500);
        due("its number", x.storage(one, 1), 8);
        int other = account(x, 0, push(2), push(1), STORE);
        due("another one", x.transact(0, other, 0, 1000), 6);
        due("keys()", x.keys(), 500);
    }
}
