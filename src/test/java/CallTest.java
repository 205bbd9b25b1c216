/** Promise 6: instruction 27, runs within runs, and the undoing of what a failed one did. */
public final class CallTest {
    public static void main(String[] args) {
        resultsComeBack();
        argumentsInOrder();
        surroundings();
        price();
        refusedCalls();
        refusedCallsTakeTheirArguments();
        gasShare();
        gasComesBack();
        trapsOfEveryKindAreUndone();
        innerWorkIsUndoneWithTheOuter();
        onlyTheFailedPartIsUndone();
        eightRuns();
        reentry();
        unsealedIsEmpty();
        fullStorageWithin();
        Check.finish();
    }

    /** Calls t with v, g and arguments, the last of these pushed first. */
    private static int[] call(int t, int v, int g, int... arguments) {
        int[] turned = new int[arguments.length];
        for (int i = 0; i < turned.length; i++) {
            turned[i] = arguments[arguments.length - 1 - i];
        }
        return Check.join(Check.pushes(turned), Check.pushes(g, v, t),
                Check.row(Check.word(27, arguments.length)));
    }

    /** Ends with 10 times the called one's result and whether it ended well added. */
    private static final int[] BOTH = {Check.word(4, 1), Check.push(10), 7, 5, 26};

    private static void resultsComeBack() {
        CallLedger x = new CallLedger();
        int seven = Check.account(x, 0, Check.row(Check.push(7), 26));
        int back = Check.account(x, 0, Check.row(Check.push(-8), 29));
        int trap = Check.account(x, 0, Check.row(Check.push(9), 2, 2));
        int empty = Check.account(x, 0);
        int[][] wanted = {{seven, 71}, {back, -80}, {trap, 0}, {empty, 1}};
        for (int[] want : wanted) {
            int caller = Check.account(x, 0, Check.join(call(want[0], 0, 100), BOTH));
            Check.due("the caller ends", x.transact(0, caller, 0, 1000), 0);
            Check.due("calling " + want[0], x.result(), want[1]);
        }
    }

    private static void argumentsInOrder() {
        CallLedger x = new CallLedger();
        int[] digits = {Check.push(0)};
        for (int i = 0; i < 9; i++) {
            digits = Check.join(digits, Check.row(Check.push(10), 7, Check.push(i), 20, 5));
        }
        int reader = Check.account(x, 0, Check.join(digits, Check.row(26)));
        int[] drop = {2, 26};
        int eight = Check.account(x, 0, Check.join(call(reader, 0, 500, 1, 2, 3, 4, 5, 6, 7, 8), drop));
        int two = Check.account(x, 0, Check.join(call(reader, 0, 500, 3, 9), drop));
        int none = Check.account(x, 0, Check.join(call(reader, 0, 500), drop));
        x.argument(4);
        x.transact(0, eight, 0, 1000);
        Check.due("eight arguments", x.result(), 123456780);
        x.transact(0, two, 0, 1000);
        Check.due("two arguments", x.result(), 390000000);
        x.argument(4);
        x.transact(0, none, 0, 1000);
        Check.due("no arguments", x.result(), 0);
        int own = Check.account(x, 0, Check.join(call(reader, 0, 500, 3), Check.row(2, 2, Check.push(0), 20, 26)));
        x.argument(6);
        x.transact(0, own, 0, 1000);
        Check.due("its own argument behind a call", x.result(), 6);
    }

    private static void surroundings() {
        CallLedger x = new CallLedger();
        x.open(100);
        int callee = Check.account(x, 5,
                Check.row(21, 25, 22, 25, 23, 25, 23, 24, 25, 21, 24, 25, 28, 25));
        int caller = Check.account(x, 40, Check.join(call(callee, 7, 90), Check.row(21, 25, 22, 25, 23, 25)));
        Check.due("calls", x.transact(0, caller, 3, 1000), 0);
        int[] want = {caller, 7, callee, 12, 36, 90 - 5 * 8 - 2 * 5 - 6, 0, 3, caller};
        Check.due("logged", x.logged(), want.length);
        for (int i = 0; i < Math.min(want.length, x.logged()); i++) {
            Check.due("log " + i, x.log(i), want[i]);
        }
        Check.due("balance of the payer", x.balance(0), 97);
        Check.due("balance of the caller", x.balance(caller), 36);
        Check.due("balance of the called", x.balance(callee), 12);
        Check.due("supply", x.supply(), 145);
    }

    private static void price() {
        CallLedger x = new CallLedger();
        int empty = Check.account(x, 0);
        int free = Check.account(x, 9, call(empty, 0, 0));
        int paid = Check.account(x, 9, call(empty, 1, 0));
        int below = Check.account(x, 9, call(empty, -1, 0));
        int[][] prices = {{free, 25}, {paid, 40}, {below, 40}};
        for (int[] one : prices) {
            Check.due("price - 1", x.transact(0, one[0], 0, 3 + one[1] - 1), 2);
            Check.due("price", x.transact(0, one[0], 0, 3 + one[1]), 0);
            Check.due("used", x.used(), 3 + one[1]);
            x.transact(0, one[0], 0, 1000);
            Check.due("used of more", x.used(), 3 + one[1]);
        }
        Check.due("one went each time", x.balance(empty), 2);
    }

    private static void refusedCalls() {
        CallLedger x = new CallLedger();
        int seven = Check.account(x, 0, Check.row(Check.push(7), 26));
        int[][] calls = {{-1, 0, 50}, {24, 0, 50}, {23, 0, 50}, {seven, -1, 50}, {seven, 10, 50},
            {seven, 0, -1}, {8388607, 0, 50}, {-8388608, 0, 50}, {seven, -8388608, 50}, {seven, 0, -8388608}};
        for (int[] one : calls) {
            int caller = Check.account(x, 9, Check.join(call(one[0], one[1], one[2]),
                    Check.row(28, 25, 14, 26)));
            Check.due("the caller ends", x.transact(0, caller, 0, 200), 0);
            Check.due("the refused call pushed two zeros", x.result(), 0);
            Check.due("it took no gas", x.log(x.logged() - 1), 196 - (one[1] == 0 ? 25 : 40));
            Check.due("no balance changed", x.balance(seven), 0);
        }
        int all = Check.account(x, 9, Check.join(call(seven, 9, 50), BOTH));
        x.transact(0, all, 0, 200);
        Check.due("a call with all that it has", x.result(), 71);
        Check.due("all went", x.balance(seven), 9);
    }

    private static void refusedCallsTakeTheirArguments() {
        CallLedger x = new CallLedger();
        int[] code = Check.join(Check.row(Check.push(77)), call(20, 0, 50, 1, 2, 3), Check.row(2, 2, 26));
        int caller = Check.account(x, 0, code);
        Check.due("the caller ends", x.transact(0, caller, 0, 200), 0);
        Check.due("what is below the call's numbers", x.result(), 77);
    }

    private static void gasShare() {
        CallLedger x = new CallLedger();
        int teller = Check.account(x, 0, Check.row(28, 26));
        int caller = Check.account(x, 0, Check.join(call(teller, 0, 3000), Check.row(2, 26)));
        for (int left : new int[] {1, 2, 7, 8, 9, 15, 16, 17, 63, 64, 800, 801, 807, 808, 3428, 3429, 9972}) {
            int given = Math.min(3000, left - left / 8);
            int ending = x.transact(0, caller, 0, 28 + left);
            if (left >= 4) {
                Check.due("with " + left + " left", ending, 0);
                Check.due("given of " + left, x.result(), given - 1);
                Check.due("used of " + left, x.used(), 28 + 4);
            } else {
                Check.due("with " + left + " left", ending, 2);
            }
        }
        int miser = Check.account(x, 0, Check.join(call(teller, 0, 0), BOTH));
        Check.due("no gas given", x.transact(0, miser, 0, 500), 0);
        Check.due("the called one trapped", x.result(), 0);
    }

    private static void gasComesBack() {
        CallLedger x = new CallLedger();
        int well = Check.account(x, 0, Check.row(Check.push(1), 26));
        int back = Check.account(x, 0, Check.row(Check.push(1), 29));
        int trap = Check.account(x, 0, Check.row(2));
        int[][] kinds = {{well, 2}, {back, 2}, {trap, 100}};
        for (int[] kind : kinds) {
            int caller = Check.account(x, 0, Check.join(call(kind[0], 0, 100), Check.row(28, 26)));
            x.transact(0, caller, 0, 1000);
            Check.due("gas behind the call", x.result(), 1000 - 28 - kind[1] - 1);
            Check.due("used", x.used(), 28 + kind[1] + 2);
        }
    }

    /** Stores 5 for the key 1, logs 3, sends 2 to account 0, and then does what the last words say. */
    private static int[] doesMuch(int... last) {
        return Check.join(Check.row(Check.push(1), Check.push(5), 19, Check.push(3), 25), call(0, 2, 0),
                Check.row(2, 2), last);
    }

    private static void trapsOfEveryKindAreUndone() {
        int[][] lasts = {{Check.push(9), 29}, {Check.word(16, 11)}, {2}, {28, Check.word(16, 11)}};
        for (int[] last : lasts) {
            CallLedger x = new CallLedger();
            x.open(10);
            int inner = Check.account(x, 6, doesMuch(last));
            int outer = Check.account(x, 20, Check.join(Check.row(Check.push(8), 25), call(inner, 4, 500), BOTH));
            Check.due("the outer one ends well", x.transact(0, outer, 1, 2000), 0);
            Check.due("the inner one did not", x.result(), last[0] == Check.push(9) ? 90 : 0);
            Check.due("balance 0", x.balance(0), 9);
            Check.due("balance of the inner one", x.balance(inner), 6);
            Check.due("balance of the outer one", x.balance(outer), 21);
            Check.due("storage", x.storage(inner, 1), 0);
            Check.due("keys", x.keys(), 0);
            Check.due("logged", x.logged(), 1);
            Check.due("log", x.log(0), 8);
        }
    }

    private static void innerWorkIsUndoneWithTheOuter() {
        CallLedger x = new CallLedger();
        x.open(10);
        int innermost = Check.account(x, 6, doesMuch());
        int middle = Check.account(x, 6, Check.join(call(innermost, 3, 900), Check.row(Check.push(4), 29)));
        int outer = Check.account(x, 6, Check.join(call(middle, 3, 2000), BOTH));
        Check.due("ends well", x.transact(0, outer, 0, 5000), 0);
        Check.due("the middle one reverted", x.result(), 40);
        Check.due("balances", x.balance(innermost) * 100 + x.balance(middle) * 10 + x.balance(outer), 666);
        Check.due("balance 0", x.balance(0), 10);
        Check.due("storage", x.storage(innermost, 1), 0);
        Check.due("logged", x.logged(), 0);
        Check.due("the innermost alone", x.transact(0, innermost, 0, 5000), 0);
        Check.due("its storage", x.storage(innermost, 1), 5);
        Check.due("logged then", x.logged(), 1);
    }

    private static void onlyTheFailedPartIsUndone() {
        CallLedger x = new CallLedger();
        x.open(10);
        int[] store = {Check.push(0), 20, Check.push(1), 20, 19};
        int keep = Check.account(x, 0, store);
        int lose = Check.account(x, 0, Check.join(call(keep, 0, 900, 1, 50), call(keep, 0, 900, 2, 60),
                call(keep, 0, 900, 3, 0), call(keep, 0, 900, 1, 51), Check.row(29)));
        int outer = Check.account(x, 0, Check.join(call(keep, 0, 900, 1, 40), call(keep, 0, 900, 3, 30),
                call(lose, 0, 5000), call(keep, 0, 900, 4, 70)));
        Check.due("ends well", x.transact(0, outer, 0, 10000), 0);
        Check.due("written before", x.storage(keep, 1), 40);
        Check.due("only in the failed part", x.storage(keep, 2), 0);
        Check.due("taken away in the failed part", x.storage(keep, 3), 30);
        Check.due("written behind it", x.storage(keep, 4), 70);
        Check.due("keys", x.keys(), 3);
    }

    /** Each calls itself with all gas; argument 0 counts the runs, and the log keeps the counts. */
    private static void eightRuns() {
        CallLedger x = new CallLedger();
        int[] code = {Check.push(0), 20, Check.push(1), 5, Check.word(3, 0), 25,
            Check.push(9000), Check.push(0), 23, Check.word(27, 1), 25, 26};
        int account = Check.account(x, 0, code);
        Check.due("ends", x.transact(0, account, 0, 10000), 0);
        Check.due("logged", x.logged(), 16);
        for (int i = 0; i < 8; i++) {
            Check.due("run", x.log(i), i + 1);
            Check.due("ended well", x.log(8 + i), i == 0 ? 0 : 1);
        }
    }

    private static void reentry() {
        CallLedger x = new CallLedger();
        int[] code = {Check.push(0), 20, Check.word(17, 15),
            Check.push(1), Check.push(5), 19,
            Check.push(1), Check.push(900), Check.push(3), 23, Check.word(27, 1), 2, 2,
            Check.push(1), Check.word(16, 19),
            Check.push(1), Check.push(6), 19, Check.push(1),
            18, 26};
        int account = Check.account(x, 9, code);
        Check.due("calls itself", x.transact(0, account, 0, 5000), 0);
        Check.due("sees what the inner run stored", x.result(), 6);
        Check.due("balance", x.balance(account), 9);
    }

    private static void unsealedIsEmpty() {
        CallLedger x = new CallLedger();
        x.open(4);
        x.code(0, Check.push(5));
        x.code(0, 29);
        int caller = Check.account(x, 9, Check.join(call(0, 2, 50), BOTH));
        Check.due("ends well", x.transact(0, caller, 0, 500), 0);
        Check.due("as if empty", x.result(), 1);
        Check.due("the amount went", x.balance(0), 6);
    }

    private static void fullStorageWithin() {
        CallLedger x = new CallLedger();
        int[] store = {Check.push(0), 20, Check.push(1), 19};
        int keeper = Check.account(x, 0, store);
        int[] fill = {Check.push(0), 20,
            Check.word(3, 0), Check.word(3, 0), 19,
            Check.push(1), 6, Check.word(3, 0), Check.push(0), 20, Check.push(100), 6, 11, Check.word(17, 15),
            Check.word(16, 2)};
        for (int i = 0; i < 5; i++) {
            int filler = Check.account(x, 0, fill);
            x.argument(1000);
            Check.due("fill", x.transact(0, filler, 0, 10000), 0);
        }
        Check.due("keys", x.keys(), 500);
        int caller = Check.account(x, 0, Check.join(call(keeper, 0, 300, 7), Check.row(28, 25), BOTH));
        Check.due("the caller goes on", x.transact(0, caller, 0, 1000), 0);
        Check.due("the called one trapped", x.result(), 0);
        Check.due("its gas is gone", x.log(0), 1000 - 4 - 25 - 300 - 1);
        Check.due("nothing stored", x.storage(keeper, 7), 0);
    }
}
