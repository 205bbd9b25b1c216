/** The instruction 27 CALL: what it pops, its price, what it refuses, and the run that it begins. */
public final class CallTest extends Bench {
    public static void main(String[] args) {
        poppedInOrder();
        noArgumentsToEight();
        argumentsOfEachRun();
        price();
        priceWithFewerThanTwo();
        noAccountT();
        noAccountTOf24();
        amountBelowZeroOrAboveTheBalance();
        amountAboveWhatIsLeft();
        limitBelowZero();
        refusedForSeveralReasons();
        refusedTakesItsArguments();
        amountGoesFirst();
        itself();
        callerAndValue();
        callerAndValueOfEightRuns();
        gasIsTheLimit();
        gasIsNoMoreThanTheShare();
        eighthIsRoundedDown();
        noGasLeft();
        callerDoesNotHaveIt();
        gasComesBack();
        resultAndHowItEnded();
        eightRuns();
        eightRunsOfManyAccounts();
        manyCallsOneBehindTheOther();
        depthCountsAgain();
        finish();
    }

    /** Ends with the two numbers that the call of account 0 pushed, as BOTH tells them. */
    private static void callGives(String name, CallLedger x, int want, int v, int g, int... arguments) {
        int caller = account(x, 9, call(0, v, g, arguments), BOTH);
        due(name + ": transact", x.transact(caller, caller, 0, 1000), 0);
        due(name, x.result(), want);
    }

    private static void poppedInOrder() {
        sentence("popped are an account t, an amount v, a limit g, and then n numbers");
        CallLedger x = new CallLedger();
        account(x, 0, GAS, LOG, VALUE, LOG, push(0), ARGUMENT, LOG, push(1), ARGUMENT, LOG);
        int caller = account(x, 50, push(12), push(11), push(100), push(3), push(0), word(27, 2));
        due("transact", x.transact(caller, caller, 0, 1000), 0);
        due("limit 100, amount 3, arguments 11 and 12", state(x),
                "3: 47: supply 50 keys 0 log 99 3 11 12 used " + x.used() + " result 0");
    }

    private static void noArgumentsToEight() {
        sentence("n numbers, which are the call's arguments 0, 1, ..");
        for (int n = 0; n <= 8; n++) {
            CallLedger x = new CallLedger();
            int[] digits = {push(0)};
            for (int i = 0; i < 9; i++) {
                digits = code(digits, push(10), MULTIPLY, push(i), ARGUMENT, ADD);
            }
            int reader = account(x, 0, digits, RETURN);
            int[] arguments = new int[n];
            int want = 0;
            for (int i = 0; i < 9; i++) {
                want = 10 * want + (i < n ? i + 1 : 0);
                if (i < n) {
                    arguments[i] = i + 1;
                }
            }
            int caller = account(x, 0, push(7), push(7), call(reader, 0, 500, arguments), DROP, RETURN);
            x.argument(9);
            due(n + " arguments: transact", x.transact(0, caller, 0, 1000), 0);
            due(n + " arguments, none of them the caller's", x.result(), want);
        }
    }

    private static void argumentsOfEachRun() {
        sentence("n numbers, which are the call's arguments 0, 1, ..");
        CallLedger x = new CallLedger();
        int echo = account(x, 0, push(0), ARGUMENT, RETURN);
        int second = account(x, 0, call(echo, 0, 50, 3), DROP, DROP, call(echo, 0, 50), BOTH);
        x.argument(4);
        x.transact(0, second, 0, 500);
        due("a second call without arguments has none of the first's", x.result(), 1);
        int own = account(x, 0, call(echo, 0, 50, 3), push(0), ARGUMENT, RETURN);
        x.argument(6);
        x.transact(0, own, 0, 500);
        due("the caller has its own behind a call", x.result(), 6);
        int refused = account(x, 0, call(99, 0, 50, 3), DROP, DROP, call(echo, 0, 50), BOTH);
        x.transact(0, refused, 0, 500);
        due("a call has none of a refused one's", x.result(), 1);
    }

    private static void price() {
        sentence("its price is 25, and 15 more if v isn't 0");
        int[][] prices = {{0, 25}, {1, 40}, {9, 40}, {10, 40}, {-1, 40}, {LEAST_N, 40}, {MOST_N, 40}};
        for (int[] one : prices) {
            CallLedger x = new CallLedger();
            account(x, 0);
            int caller = account(x, 9, call(0, one[0], 0));
            String name = "v " + one[0];
            due(name + ", 1 too little", x.transact(0, caller, 0, 3 + one[1] - 1), 2);
            due(name + ", just enough", x.transact(0, caller, 0, 3 + one[1]), 0);
            due(name + ", used", x.used(), 3 + one[1]);
            due(name + ", balance of the called", x.balance(0), one[0] == 1 || one[0] == 9 ? one[0] : 0);
        }
    }

    private static void priceWithFewerThanTwo() {
        sentence("(25 when there are fewer than two on the stack)");
        int call = word(27, 0);
        runs("none, 24", code(call), 24, 2, 0, 24);
        runs("none, 25", code(call), 25, 3, 0, 25);
        runs("one, 24", code(push(9), call), 25, 2, 0, 25);
        runs("one, 25", code(push(9), call), 26, 3, 0, 26);
        runs("two with v 0, 24", code(push(0), push(9), call), 26, 2, 0, 26);
        runs("two with v 0, 25", code(push(0), push(9), call), 27, 3, 0, 27);
        runs("two with v 1, 39", code(push(1), push(0), call), 41, 2, 0, 41);
        runs("two with v 1, 40", code(push(1), push(0), call), 42, 3, 0, 42);
    }

    /** The words of a refused call must go on with two zeros, the gas but its price, and no amount gone. */
    private static void refuses(String name, CallLedger x, int t, int v, int g) {
        int caller = account(x, 9, push(33), pushInt(g), pushInt(v), pushInt(t), word(27, 0),
                GAS, LOG, LOG, LOG, LOG);
        int logged = x.logged();
        String before = balancesOf(x, caller);
        due(name + ": transact", x.transact(caller, caller, 0, 1000), 0);
        due(name + ": logged", x.logged(), logged + 4);
        due(name + ": gas", x.log(logged), 1000 - 19 - (v == 0 ? 25 : 40) - 1);
        due(name + ": 0 on the top", x.log(logged + 1), 0);
        due(name + ": 0 below it", x.log(logged + 2), 0);
        due(name + ": what was there before", x.log(logged + 3), 33);
        due(name + ": balances", balancesOf(x, caller), before);
    }

    private static String balancesOf(CallLedger x, int last) {
        StringBuilder all = new StringBuilder();
        for (int i = 0; i <= last; i++) {
            all.append(x.balance(i)).append(' ');
        }
        return all.toString();
    }

    private static void noAccountT() {
        sentence("If there is no account t");
        for (int t : new int[] {MIN, -2, -1, 2, 3, 23, 24, MAX}) {
            CallLedger x = new CallLedger();
            account(x, 0, push(7), RETURN);
            refuses("account " + t + " of two", x, t, 0, 50);
        }
        CallLedger x = new CallLedger();
        account(x, 0, push(7), RETURN);
        callGives("the first of two", x, 71, 0, 50);
        CallLedger y = new CallLedger();
        int caller = account(y, 0, call(1, 0, 50), BOTH);
        account(y, 0, push(7), RETURN);
        due("transact", y.transact(0, caller, 0, 500), 0);
        due("the last of two", y.result(), 71);
    }

    private static void noAccountTOf24() {
        CallLedger x = new CallLedger();
        int caller = account(x, 0, push(50), push(0), push(0), ARGUMENT, word(27, 0), BOTH);
        for (int i = 1; i < 23; i++) {
            x.open(0);
        }
        account(x, 0, push(7), RETURN);
        int[][] asked = {{22, 1}, {23, 71}, {24, 0}, {25, 0}};
        for (int[] one : asked) {
            x.argument(one[0]);
            due("transact", x.transact(0, caller, 0, 500), 0);
            due("account " + one[0] + " of 24", x.result(), one[1]);
        }
    }

    private static void amountBelowZeroOrAboveTheBalance() {
        sentence("v is below 0 or above the account's balance");
        for (int v : new int[] {MIN, -2, -1, 10, 11, MAX}) {
            CallLedger x = new CallLedger();
            account(x, 500, push(7), RETURN);
            refuses("v " + v + " of 9", x, 0, v, 50);
        }
        for (int v : new int[] {0, 1, 8, 9}) {
            CallLedger x = new CallLedger();
            account(x, 500, push(7), RETURN);
            callGives("v " + v + " of 9", x, 71, v, 50);
            due("it went", x.balance(0), 500 + v);
            due("what is left", x.balance(1), 9 - v);
        }
    }

    private static void amountAboveWhatIsLeft() {
        sentence("v is below 0 or above the account's balance");
        CallLedger x = new CallLedger();
        account(x, 5);
        int twice = account(x, 9, call(0, 5, 0), LOG, DROP, call(0, 5, 0), LOG, DROP, call(0, 4, 0), LOG, DROP,
                call(0, 1, 0), LOG, DROP);
        due("transact", x.transact(0, twice, 0, 1000), 0);
        due("5 goes, 5 is above what is left, 4 goes, 1 is above", state(x),
                "14: 0: supply 14 keys 0 log 1 0 1 0 used " + x.used() + " result 0");
        due("with an amount of 5", x.transact(0, twice, 5, 1000), 0);
        due("5 came and goes", x.balance(twice), 0);
    }

    private static void limitBelowZero() {
        sentence("g is below 0");
        for (int g : new int[] {MIN, -2, -1}) {
            CallLedger x = new CallLedger();
            account(x, 0, push(7), RETURN);
            refuses("g " + g, x, 0, 0, g);
        }
        CallLedger x = new CallLedger();
        account(x, 0, push(7), RETURN);
        callGives("g 0 ends with a trap", x, 0, 0, 0);
        callGives("g 1 ends with a trap", x, 0, 0, 1);
        callGives("g 2 is enough", x, 71, 0, 2);
        CallLedger y = new CallLedger();
        account(y, 0);
        callGives("g -1 of an empty code", y, 0, 0, -1);
        callGives("g 0 of an empty code", y, 1, 0, 0);
        callGives("much", y, 1, 0, MOST_N);
    }

    private static void refusedForSeveralReasons() {
        sentence("0 and then 0 are pushed");
        CallLedger x = new CallLedger();
        account(x, 0, push(7), RETURN);
        refuses("t and v", x, 9, -1, 50);
        refuses("t and g", x, -1, 0, -1);
        refuses("v and g", x, 0, 10, -1);
        refuses("all", x, MIN, MIN, MIN);
    }

    private static void refusedTakesItsArguments() {
        sentence("0 and then 0 are pushed");
        for (int n = 0; n <= 8; n++) {
            CallLedger x = new CallLedger();
            int caller = account(x, 0, push(77), call(20, 0, 50, new int[n]), DROP, DROP, RETURN);
            due("transact", x.transact(0, caller, 0, 200), 0);
            due("what is below " + n + " arguments", x.result(), 77);
        }
        CallLedger x = new CallLedger();
        int full = account(x, 0, times(29, push(1)), call(20, 0, 50), ADD, ADD, RETURN);
        due("a refused call with a full stack", x.transact(0, full, 0, 200), 0);
        due("29 numbers and two zeros", x.result(), 1);
    }

    private static void amountGoesFirst() {
        sentence("Otherwise v goes from the account to t");
        CallLedger x = new CallLedger();
        account(x, 5, SELF, BALANCE, LOG, CALLER, BALANCE, LOG);
        int caller = account(x, 9, call(0, 9, 100), SELF, BALANCE, LOG);
        due("transact", x.transact(caller, caller, 0, 500), 0);
        due("what the called one sees, and the caller then", state(x),
                "14: 0: supply 14 keys 0 log 14 0 0 used " + x.used() + " result 0");
    }

    private static void itself() {
        sentence("Otherwise v goes from the account to t");
        CallLedger x = new CallLedger();
        int self = account(x, 9, push(0), ARGUMENT, jumpIf(13),
                push(1), push(200), push(9), push(0), word(27, 1), LOG, DROP, SELF, BALANCE, RETURN,
                SELF, BALANCE, LOG, CALLER, LOG, VALUE, LOG);
        due("transact", x.transact(self, self, 0, 500), 0);
        due("all of it to itself", state(x), "9: supply 9 keys 0 log 9 0 9 1 used " + x.used() + " result 9");
    }

    private static void callerAndValue() {
        sentence("with the account as its caller, v as its value");
        CallLedger x = new CallLedger();
        account(x, 50);
        int last = account(x, 0, CALLER, LOG, VALUE, LOG, SELF, LOG);
        int middle = account(x, 20, call(last, 9, 100), CALLER, LOG, VALUE, LOG, SELF, LOG);
        int first = account(x, 20, call(middle, 4, 500), CALLER, LOG, VALUE, LOG, SELF, LOG);
        due("transact", x.transact(0, first, 6, 2000), 0);
        dueLog(x, middle, 9, last, first, 4, middle, 0, 6, first);
    }

    private static void callerAndValueOfEightRuns() {
        sentence("with the account as its caller, v as its value");
        CallLedger x = new CallLedger();
        for (int i = 0; i < 8; i++) {
            account(x, 20, CALLER, LOG, VALUE, LOG, SELF, LOG, call(i + 1, 11 + i, 9000));
        }
        x.open(0);
        due("transact", x.transact(3, 0, 10, 10000), 0);
        dueLog(x, 3, 10, 0, 0, 11, 1, 1, 12, 2, 2, 13, 3, 3, 14, 4, 4, 15, 5, 5, 16, 6, 6, 17, 7);
    }

    private static void dueLog(CallLedger x, int... want) {
        due("logged()", x.logged(), want.length);
        for (int i = 0; i < Math.min(want.length, x.logged()); i++) {
            due("log(" + i + ")", x.log(i), want[i]);
        }
    }

    /** A caller of a teller with this limit, that has so much left when it has paid the call. */
    private static void given(int left, int limit, int want) {
        CallLedger x = new CallLedger();
        int teller = account(x, 0, TELLER);
        int caller = account(x, 0, call(teller, 0, limit), DROP, RETURN);
        due(left + " left, limit " + limit + ": transact", x.transact(0, caller, 0, 28 + left), 0);
        due(left + " left, limit " + limit + ": given", x.result() + 1, want);
        due(left + " left, limit " + limit + ": used", x.used(), 28 + 4);
    }

    private static void gasIsTheLimit() {
        sentence("as gas: g");
        given(800, 2, 2);
        given(800, 3, 3);
        given(9972, 5000, 5000);
    }

    private static void gasIsNoMoreThanTheShare() {
        sentence("but no more than what is left less an eighth of it");
        given(800, 699, 699);
        given(800, 700, 700);
        given(800, 701, 700);
        given(800, 800, 700);
        given(800, 801, 700);
        given(800, MOST_N, 700);
        given(9972, MOST_N, 9972 - 1246);
        given(9968, MOST_N, 9968 - 1246);
        given(9967, MOST_N, 9967 - 1245);
    }

    private static void eighthIsRoundedDown() {
        sentence("(rounded down)");
        int[][] shares = {{4, 4}, {7, 7}, {8, 7}, {9, 8}, {15, 14}, {16, 14}, {17, 15}, {23, 21}, {24, 21},
            {63, 56}, {64, 56}, {65, 57}, {807, 707}, {808, 707}};
        for (int[] one : shares) {
            given(one[0], MOST_N, one[1]);
        }
    }

    private static void noGasLeft() {
        sentence("but no more than what is left less an eighth of it");
        CallLedger x = new CallLedger();
        int empty = account(x, 0);
        int word = account(x, 0, push(7));
        int callsEmpty = account(x, 9, call(empty, 1, 500));
        int callsWord = account(x, 9, call(word, 1, 500));
        due("an empty code without gas", x.transact(0, callsEmpty, 0, 43), 0);
        due("it ended well", x.balance(empty), 1);
        due("a word without gas", x.transact(0, callsWord, 0, 43), 0);
        due("it ended with a trap", x.balance(word), 0);
        due("a word with 1", x.transact(0, callsWord, 0, 44), 0);
        due("it ended well", x.balance(word), 1);
        due("used", x.used(), 44);
    }

    private static void callerDoesNotHaveIt() {
        sentence("which the caller does not have meanwhile");
        CallLedger x = new CallLedger();
        int last = account(x, 0, GAS, LOG);
        int middle = account(x, 0, call(last, 0, MOST_N), GAS, LOG);
        int first = account(x, 0, call(middle, 0, MOST_N), GAS, LOG);
        due("transact", x.transact(0, first, 0, 828), 0);
        // 800 are left to the first, 700 given; 672 left to the middle, 588 given
        due("logged()", x.logged(), 3);
        due("the last one's", x.log(0), 588 - 1);
        due("the middle one's then", x.log(1), 672 - 9 - 1);
        due("the first one's then", x.log(2), 800 - 28 - 9 - 9 - 1);
    }

    private static void gasComesBack() {
        sentence("its gas comes back, 0 with a trap");
        CallLedger x = new CallLedger();
        // code, what it needs of 100
        int[][] kinds = {{account(x, 0), 0}, {account(x, 0, push(1), RETURN), 2},
            {account(x, 0, push(1), REVERT), 2}, {account(x, 0, jump(0)), 100}, {account(x, 0, DROP), 100},
            {account(x, 0, GAS, jump(0)), 100}};
        for (int[] kind : kinds) {
            int caller = account(x, 0, call(kind[0], 0, 100), GAS, RETURN);
            due("transact", x.transact(0, caller, 0, 1000), 0);
            due("left behind the call of " + kind[0], x.result(), 1000 - 28 - kind[1] - 1);
            due("used", x.used(), 28 + kind[1] + 2);
        }
    }

    private static void resultAndHowItEnded() {
        sentence("if it ended well, its result and then 1 are pushed");
        for (int result : new int[] {7, 0, -1, LEAST_N, MOST_N}) {
            pushed(code(push(result), RETURN), result, 1);
            pushed(code(push(result), END), 0, 1);
            pushed(code(push(result)), 0, 1);
        }
        pushed(code(), 0, 1);
        pushed(code(pushInt(MIN), RETURN), MIN, 1);
        sentence("its result (0 with a trap), and then 0, pushed");
        for (int result : new int[] {7, 0, -1, LEAST_N, MOST_N}) {
            pushed(code(push(result), REVERT), result, 0);
            pushed(code(push(result), DROP, DROP), 0, 0);
            pushed(code(push(result), jump(1)), 0, 0);
            pushed(code(push(result), jump(0)), 0, 0);
        }
        pushed(code(pushInt(MIN), REVERT), MIN, 0);
    }

    private static void pushed(int[] words, int result, int flag) {
        CallLedger x = new CallLedger();
        int called = account(x, 0, words);
        int caller = account(x, 0, push(33), call(called, 0, 100), LOG, LOG, LOG);
        due("transact", x.transact(0, caller, 0, 1000), 0);
        due("the top, the one below it, and what was there", state(x),
                "0: 0: supply 0 keys 0 log " + flag + " " + result + " 33 used " + x.used() + " result 0");
    }

    /** Logs argument 0 plus 1, calls itself with that, and logs how that ended. */
    private static int[] deeper(int t) {
        return code(push(0), ARGUMENT, push(1), ADD, copy(0), LOG, push(9000), push(0), push(t), word(27, 1),
                LOG, RETURN);
    }

    private static void dueDepths(CallLedger x) {
        due("logged()", x.logged(), 16);
        for (int i = 0; i < 8; i++) {
            due("run", x.log(i), i + 1);
            due("whether the call of run " + (8 - i) + " ended well", x.log(8 + i), i == 0 ? 0 : 1);
        }
    }

    private static void eightRuns() {
        sentence("the run is the eighth one, each within the one before");
        CallLedger x = new CallLedger();
        int self = account(x, 0, deeper(0));
        due("transact", x.transact(0, self, 0, 10000), 0);
        dueDepths(x);
    }

    private static void eightRunsOfManyAccounts() {
        sentence("the run is the eighth one, each within the one before");
        CallLedger x = new CallLedger();
        for (int i = 0; i < 9; i++) {
            account(x, 0, deeper(i + 1));
        }
        due("transact", x.transact(8, 0, 0, 10000), 0);
        dueDepths(x);
    }

    private static void manyCallsOneBehindTheOther() {
        sentence("the run is the eighth one, each within the one before");
        CallLedger x = new CallLedger();
        int seven = account(x, 0, push(7), RETURN);
        int[] twelve = {};
        for (int i = 0; i < 12; i++) {
            twelve = code(twelve, call(seven, 0, 50), LOG, LOG);
        }
        int caller = account(x, 0, twelve);
        due("transact", x.transact(0, caller, 0, 10000), 0);
        due("logged()", x.logged(), 24);
        for (int i = 0; i < 12; i++) {
            due("call " + i + " ended well", x.log(2 * i), 1);
            due("call " + i + "'s result", x.log(2 * i + 1), 7);
        }
    }

    private static void depthCountsAgain() {
        sentence("the run is the eighth one, each within the one before");
        CallLedger x = new CallLedger();
        int self = account(x, 0, deeper(0));
        for (int i = 0; i < 2; i++) {
            due("transact", x.transact(0, self, 0, 10000), 0);
        }
        due("eight runs in each transaction", x.logged(), 32);
        due("the second one's eighth", x.log(23), 8);
        int twice = account(x, 0, call(self, 0, 3000), call(self, 0, 3000));
        due("transact", x.transact(0, twice, 0, 10000), 0);
        due("seven runs in each call", x.logged(), 32 + 28);
        due("the second one's seventh", x.log(32 + 14 + 6), 7);
    }
}
