/** Promises 6 to 8: transact, used, result. */
public final class TransactTest {
    public static void main(String[] args) {
        refusals();
        refusalsChangeNothing();
        moves();
        endingsUndo();
        usedAndResult();
        Check.finish();
    }

    private static void refusals() {
        CallLedger x = new CallLedger();
        Class<IndexOutOfBoundsException> noAccount = IndexOutOfBoundsException.class;
        Class<IllegalArgumentException> wrong = IllegalArgumentException.class;
        x.open(10);
        Check.dueThrow("from none", noAccount, () -> x.transact(1, 0, 0, 0));
        Check.dueThrow("to none", noAccount, () -> x.transact(0, 1, 0, 0));
        Check.dueThrow("from below", noAccount, () -> x.transact(-1, 0, 0, 0));
        Check.dueThrow("to below", noAccount, () -> x.transact(0, -1, 0, 0));
        Check.dueThrow("to none, all wrong", noAccount, () -> x.transact(0, 24, 11, 10001));
        Check.dueThrow("from none, all wrong", noAccount, () -> x.transact(24, 0, -1, -1));
        Check.dueThrow("amount below 0", wrong, () -> x.transact(0, 0, -1, 0));
        Check.dueThrow("amount far below 0", wrong, () -> x.transact(0, 0, Integer.MIN_VALUE, 0));
        Check.dueThrow("amount above the balance", wrong, () -> x.transact(0, 0, 11, 0));
        Check.dueThrow("gas below 0", wrong, () -> x.transact(0, 0, 0, -1));
        Check.dueThrow("gas above 10000", wrong, () -> x.transact(0, 0, 0, 10001));
        Check.due("all of it, most gas", x.transact(0, 0, 10, 10000), 0);
        Check.due("used", x.used(), 0);
    }

    private static void refusalsChangeNothing() {
        CallLedger x = new CallLedger();
        int back = Check.account(x, 10, Check.row(Check.push(6), 29));
        Check.due("reverts", x.transact(back, back, 3, 50), 1);
        x.argument(1);
        Check.dueThrow("too much", IllegalArgumentException.class, () -> x.transact(back, back, 11, 9));
        Check.dueThrow("to none", IndexOutOfBoundsException.class, () -> x.transact(back, 9, 11, 9));
        Check.due("used stays", x.used(), 2);
        Check.due("result stays", x.result(), 6);
        Check.due("balance stays", x.balance(back), 10);
        Check.due("arguments stay", x.argument(2), 2);
    }

    private static void moves() {
        CallLedger x = new CallLedger();
        x.open(10);
        int to = Check.account(x, 5, Check.row(23, 24, 26));
        Check.due("moves", x.transact(0, to, 4, 50), 0);
        Check.due("the amount is there when the code runs", x.result(), 9);
        Check.due("from has less", x.balance(0), 6);
        Check.due("to has more", x.balance(to), 9);
        Check.due("no amount", x.transact(0, to, 0, 50), 0);
        Check.due("from has the same", x.balance(0), 6);
        Check.due("to itself", x.transact(to, to, 9, 50), 0);
        Check.due("it has the same", x.result(), 9);
        Check.due("and still", x.balance(to), 9);
    }

    /** Stores 5 for the key 1, logs 3, and then does what the last words say. */
    private static int[] doesMuch(int... last) {
        int[] first = Check.row(Check.push(1), Check.push(5), 19, Check.push(3), 25);
        return Check.join(first, last);
    }

    private static void endingsUndo() {
        undoes(1, 9, Check.row(Check.push(9), 29));
        undoes(2, 0, Check.row(Check.word(16, 5)));
        undoes(3, 0, Check.row(2));
        undoes(4, 0, Check.row(Check.push(1), Check.word(16, 5)));
        CallLedger x = new CallLedger();
        x.open(10);
        int well = Check.account(x, 0, doesMuch(Check.push(9), 26));
        Check.due("well", x.transact(0, well, 4, 500), 0);
        Check.due("well: balance", x.balance(well), 4);
        Check.due("well: storage", x.storage(well, 1), 5);
        Check.due("well: keys", x.keys(), 1);
        Check.due("well: logged", x.logged(), 1);
        Check.due("well: log", x.log(0), 3);
        Check.due("well: result", x.result(), 9);
        Check.due("well: used", x.used(), 2 + 40 + 1 + 8 + 1 + 1);
    }

    private static void undoes(int ending, int result, int[] last) {
        CallLedger x = new CallLedger();
        x.open(10);
        int account = Check.account(x, 0, doesMuch(last));
        Check.due("ending", x.transact(0, account, 4, 500), ending);
        String name = "ending " + ending + ": ";
        Check.due(name + "balance of the payer", x.balance(0), 10);
        Check.due(name + "balance", x.balance(account), 0);
        Check.due(name + "storage", x.storage(account, 1), 0);
        Check.due(name + "keys", x.keys(), 0);
        Check.due(name + "logged", x.logged(), 0);
        Check.due(name + "result", x.result(), result);
        Check.due(name + "used", x.used(), ending == 1 ? 53 : 500);
        Check.due(name + "supply", x.supply(), 10);
    }

    private static void usedAndResult() {
        CallLedger x = new CallLedger();
        int seven = Check.account(x, 0, Check.row(Check.push(7), 26));
        int back = Check.account(x, 0, Check.row(Check.push(-4), 29));
        int empty = Check.account(x, 0);
        x.transact(0, seven, 0, 100);
        Check.due("result", x.result(), 7);
        Check.due("used", x.used(), 2);
        x.transact(0, back, 0, 100);
        Check.due("result, reverted", x.result(), -4);
        Check.due("used, reverted", x.used(), 2);
        x.transact(0, seven, 0, 1);
        Check.due("result, trap", x.result(), 0);
        Check.due("used, trap", x.used(), 1);
        x.transact(0, seven, 0, 2);
        Check.due("result, just enough", x.result(), 7);
        x.transact(0, empty, 0, 77);
        Check.due("result, empty code", x.result(), 0);
        Check.due("used, empty code", x.used(), 0);
    }
}
