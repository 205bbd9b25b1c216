/** Transactions: promises 5 to 8. */
public final class TransactTest extends Bench {
    public static void main(String[] args) {
        eightArguments();
        argumentsOfAnyNumber();
        argumentsAreGoneThen();
        argumentsStayWithARefusal();
        noSuchAccount();
        amountBelowZeroOrAboveTheBalance();
        gasNotZeroTo10000();
        theOneNamedFirst();
        anAmountGoes();
        perhapsTheSame();
        howItEnded();
        allIsAsBefore();
        usedBeforeTheFirst();
        usedWithATrap();
        usedWithCalls();
        resultOfTheLast();
        finish();
    }

    private static void eightArguments() {
        sentence("Answers how many there are; NONE when there are 8");
        CallLedger x = new CallLedger();
        for (int i = 1; i <= 8; i++) {
            due("argument " + i, x.argument(10 * i), i);
        }
        due("a ninth", x.argument(90), NONE);
        due("a tenth", x.argument(100), NONE);
        int sum = account(x, 0, push(7), ARGUMENT, push(0), ARGUMENT, push(1000), MULTIPLY, ADD, RETURN);
        due("transact", x.transact(sum, sum, 0, 50), 0);
        due("the first and the eighth", x.result(), 10080);
    }

    private static void argumentsOfAnyNumber() {
        sentence("A number comes behind the arguments of the next transaction");
        CallLedger x = new CallLedger();
        int echo = account(x, 0, push(0), ARGUMENT, RETURN);
        for (int v : new int[] {MIN, -1, 0, 1, MAX}) {
            due("argument(" + v + ")", x.argument(v), 1);
            due("transact", x.transact(echo, echo, 0, 50), 0);
            due("it is there", x.result(), v);
        }
    }

    private static void argumentsAreGoneThen() {
        sentence("The arguments are gone then");
        CallLedger x = new CallLedger();
        int[] ends = {account(x, 0), account(x, 0, push(1), REVERT), account(x, 0, jump(0)),
            account(x, 0, DROP), account(x, 0, push(1), jump(0))};
        int[] endings = {0, 1, 2, 3, 4};
        int echo = account(x, 0, push(0), ARGUMENT, RETURN);
        for (int i = 0; i < ends.length; i++) {
            for (int j = 1; j <= 8; j++) {
                due("argument " + j, x.argument(70 + j), j);
            }
            due("it ends", x.transact(0, ends[i], 0, 200), endings[i]);
            due("an echo without arguments", x.transact(0, echo, 0, 50), 0);
            due("with none, behind the ending " + endings[i], x.result(), 0);
        }
        due("the next one is the first", x.argument(5), 1);
    }

    private static void argumentsStayWithARefusal() {
        sentence("a call that throws, or answers NONE, changes nothing");
        CallLedger x = new CallLedger();
        int echo = account(x, 9, push(0), ARGUMENT, push(10), MULTIPLY, push(1), ARGUMENT, ADD, RETURN);
        x.argument(4);
        outOfBounds("from none", () -> x.transact(1, 0, 0, 0));
        outOfBounds("to none", () -> x.transact(0, 1, 0, 0));
        wrongArgument("too much", () -> x.transact(0, 0, 10, 0));
        wrongArgument("too much gas", () -> x.transact(0, 0, 0, 10001));
        due("a second argument", x.argument(7), 2);
        due("transact", x.transact(echo, echo, 0, 50), 0);
        due("both are there", x.result(), 47);
    }

    private static void noSuchAccount() {
        sentence("IndexOutOfBoundsException: there is no such account");
        CallLedger x = new CallLedger();
        x.open(10);
        x.open(10);
        for (int account : new int[] {MIN, -1, 2, 3, 23, 24, MAX}) {
            outOfBounds("from " + account, () -> x.transact(account, 1, 0, 0));
            outOfBounds("to " + account, () -> x.transact(1, account, 0, 0));
            outOfBounds("from and to " + account, () -> x.transact(account, account, 0, 0));
        }
        due("from the first to the last", x.transact(0, 1, 0, 0), 0);
        due("from the last to the first", x.transact(1, 0, 0, 0), 0);
    }

    private static void amountBelowZeroOrAboveTheBalance() {
        sentence("the amount is below 0 or above the balance");
        CallLedger x = new CallLedger();
        x.open(10);
        x.open(500);
        for (int amount : new int[] {MIN, -2, -1, 11, 12, 500, MAX}) {
            wrongArgument("amount " + amount, () -> x.transact(0, 1, amount, 0));
            wrongArgument("amount " + amount + " to itself", () -> x.transact(0, 0, amount, 0));
        }
        due("nothing went", x.balance(0), 10);
        due("amount 0", x.transact(0, 1, 0, 0), 0);
        due("amount 9", x.transact(0, 1, 9, 0), 0);
        due("amount 1, which is all", x.transact(0, 1, 1, 0), 0);
        wrongArgument("amount 1 of nothing", () -> x.transact(0, 1, 1, 0));
        due("the other's balance", x.balance(1), 510);
        due("the other's all", x.transact(1, 0, 510, 0), 0);
    }

    private static void gasNotZeroTo10000() {
        sentence("gas is not 0 to 10000");
        CallLedger x = new CallLedger();
        account(x, 10, GAS, RETURN);
        for (int gas : new int[] {MIN, -2, -1, 10001, 10002, MAX}) {
            wrongArgument("gas " + gas, () -> x.transact(0, 0, 0, gas));
        }
        due("gas 0", x.transact(0, 0, 0, 0), 2);
        due("gas 1", x.transact(0, 0, 0, 1), 2);
        due("gas 2", x.transact(0, 0, 0, 2), 0);
        due("gas 9999", x.transact(0, 0, 0, 9999), 0);
        due("what is left of it", x.result(), 9998);
        due("gas 10000", x.transact(0, 0, 0, 10000), 0);
        due("what is left of it", x.result(), 9999);
    }

    private static void theOneNamedFirst() {
        sentence("the one named first when several would do");
        CallLedger x = new CallLedger();
        x.open(10);
        outOfBounds("from none, amount below 0", () -> x.transact(1, 0, -1, 0));
        outOfBounds("from none, gas below 0", () -> x.transact(-1, 0, 0, -1));
        outOfBounds("to none, amount above", () -> x.transact(0, 1, 11, 0));
        outOfBounds("to none, amount below 0", () -> x.transact(0, -1, -1, 0));
        outOfBounds("to none, gas above", () -> x.transact(0, 1, 0, 10001));
        outOfBounds("to none, all wrong", () -> x.transact(0, 24, 11, 10001));
        outOfBounds("from none, all wrong", () -> x.transact(24, 0, MIN, MIN));
        wrongArgument("amount and gas", () -> x.transact(0, 0, 11, 10001));
    }

    private static void anAmountGoes() {
        sentence("an amount goes from one account to another one");
        CallLedger x = new CallLedger();
        x.open(10);
        int to = account(x, 5, SELF, BALANCE, push(100), MULTIPLY, CALLER, BALANCE, ADD, RETURN);
        due("transact", x.transact(0, to, 4, 50), 0);
        due("it has gone when the code runs", x.result(), 906);
        due("from has less", x.balance(0), 6);
        due("to has more", x.balance(to), 9);
        due("amount 0", x.transact(0, to, 0, 50), 0);
        due("nothing has gone", x.result(), 906);
        due("all", x.transact(0, to, 6, 50), 0);
        due("all has gone", x.result(), 1500);
    }

    private static void perhapsTheSame() {
        sentence("(perhaps the same)");
        CallLedger x = new CallLedger();
        account(x, 9, SELF, BALANCE, RETURN);
        for (int amount : new int[] {0, 1, 9}) {
            due("amount " + amount, x.transact(0, 0, amount, 50), 0);
            due("the code sees what it had", x.result(), 9);
            due("it has what it had", x.balance(0), 9);
        }
        wrongArgument("amount 10", () -> x.transact(0, 0, 10, 50));
    }

    private static void howItEnded() {
        sentence("0 well, 1 reverted, 2, 3, 4 or 6 with that trap");
        runs("END", code(push(5), END), 100, 0, 0, 2);
        runs("RETURN", code(push(5), RETURN), 100, 0, 5, 2);
        runs("REVERT", code(push(5), REVERT), 100, 1, 5, 2);
        runs("no gas", code(push(5), jump(1)), 100, 2, 0, 100);
        runs("too few numbers", code(push(5), DROP, DROP), 100, 3, 0, 100);
        runs("too many numbers", code(push(5), jump(0)), 100, 4, 0, 100);
        CallLedger x = filledTo(500);
        int writer = account(x, 0, WRITER);
        due("too many keys", write(x, writer, 1, 1, 100), 6);
    }

    private static void allIsAsBefore() {
        sentence("but for 0 all is as before then");
        int[][] lasts = {{push(9), REVERT}, {jump(5)}, {DROP}, {push(1), jump(5)}};
        for (int i = 0; i < lasts.length; i++) {
            CallLedger x = new CallLedger();
            x.open(10);
            int much = account(x, 3, push(1), push(5), STORE, push(3), LOG, lasts[i]);
            due("transact", x.transact(0, much, 4, 500), i + 1);
            String answers = i == 0 ? " used 53 result 9" : " used 500 result 0";
            due("the ending " + (i + 1), state(x, 1), "10:0, 3:0, supply 13 keys 0 log" + answers);
        }
        CallLedger x = new CallLedger();
        x.open(10);
        int much = account(x, 3, push(1), push(5), STORE, push(3), LOG, push(9), RETURN);
        due("transact", x.transact(0, much, 4, 500), 0);
        due("the ending 0", state(x, 1), "6:0, 7:5, supply 13 keys 1 log 3 used 53 result 9");
    }

    private static void usedBeforeTheFirst() {
        sentence("0 before the first one");
        CallLedger x = new CallLedger();
        account(x, 5, push(7), RETURN);
        x.argument(1);
        wrongArgument("a refused transaction", () -> x.transact(0, 0, 6, 10));
        due("used()", x.used(), 0);
        due("result()", x.result(), 0);
        x.transact(0, 0, 0, 10);
        due("used() then", x.used(), 2);
        due("result() then", x.result(), 7);
        wrongArgument("a refused transaction then", () -> x.transact(0, 0, 6, 10));
        due("used() stays", x.used(), 2);
        due("result() stays", x.result(), 7);
    }

    private static void usedWithATrap() {
        sentence("How much gas the last transaction needed (all of it with a trap)");
        CallLedger x = new CallLedger();
        int empty = account(x, 0);
        int well = account(x, 0, push(7), RETURN);
        int back = account(x, 0, push(-4), REVERT);
        int[][] steps = {
            // to, gas, ending, used
            {well, 10000, 0, 2}, {well, 2, 0, 2}, {well, 1, 2, 1}, {well, 0, 2, 0},
            {back, 10000, 1, 2}, {back, 2, 1, 2}, {back, 1, 2, 1},
            {empty, 10000, 0, 0}, {empty, 0, 0, 0}};
        for (int[] one : steps) {
            due("transact to " + one[0] + " with " + one[1], x.transact(0, one[0], 0, one[1]), one[2]);
            due("used of " + one[1], x.used(), one[3]);
        }
        runs("trap 3 of 10000", code(DROP), 10000, 3, 0, 10000);
        runs("trap 4 of 10000", times(33, GAS), 10000, 4, 0, 10000);
    }

    private static void usedWithCalls() {
        CallLedger x = new CallLedger();
        int well = account(x, 0, push(7), RETURN);
        int trap = account(x, 0, DROP);
        int callsWell = account(x, 0, call(well, 0, 100));
        int callsTrap = account(x, 0, call(trap, 0, 100));
        x.transact(0, callsWell, 0, 1000);
        due("with a call that needs 2", x.used(), 28 + 2);
        x.transact(0, callsTrap, 0, 1000);
        due("with a call that needs all of its 100", x.used(), 28 + 100);
    }

    private static void resultOfTheLast() {
        sentence("The result of the last transaction; 0 with a trap");
        CallLedger x = new CallLedger();
        int well = account(x, 0, push(7), RETURN);
        int back = account(x, 0, push(-4), REVERT);
        int ends = account(x, 0, push(7), END);
        int trap = account(x, 0, push(7), DROP, DROP);
        int empty = account(x, 0);
        int[][] steps = {{well, 7}, {trap, 0}, {back, -4}, {ends, 0}, {well, 7}, {empty, 0}, {well, 7}};
        for (int[] one : steps) {
            x.transact(0, one[0], 0, 50);
            due("of " + one[0], x.result(), one[1]);
        }
        x.transact(0, well, 0, 1);
        due("without gas for it", x.result(), 0);
        x.open(0);
        due("an account more changes none", x.result(), 0);
    }
}
