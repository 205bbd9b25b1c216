/** Promises 1 to 5, 9 and 14: new objects, open, code, seal, argument, balance, supply. */
public final class AccountsTest {
    public static void main(String[] args) {
        newObject();
        openGivesNumbers();
        openRefuses();
        codeCounts();
        codeRefuses();
        sealTestsWords();
        sealEmptiesBadCode();
        sealRefuses();
        unsealedCodeIsEmpty();
        argumentsCount();
        balancesAndSupply();
        Check.finish();
    }

    private static void newObject() {
        CallLedger x = new CallLedger();
        Check.due("NONE", CallLedger.NONE, -1);
        Check.due("new: used", x.used(), 0);
        Check.due("new: result", x.result(), 0);
        Check.due("new: keys", x.keys(), 0);
        Check.due("new: logged", x.logged(), 0);
        Check.due("new: supply", x.supply(), 0);
        for (int account : new int[] {0, 1, 23, -1, Integer.MIN_VALUE, Integer.MAX_VALUE}) {
            refusesAccount(x, account);
        }
    }

    private static void refusesAccount(CallLedger x, int account) {
        Class<IndexOutOfBoundsException> want = IndexOutOfBoundsException.class;
        Check.dueThrow("code of no account", want, () -> x.code(account, 1));
        Check.dueThrow("seal of no account", want, () -> x.seal(account));
        Check.dueThrow("balance of no account", want, () -> x.balance(account));
        Check.dueThrow("storage of no account", want, () -> x.storage(account, 0));
        Check.dueThrow("transact without account", want, () -> x.transact(account, account, -1, -1));
    }

    private static void openGivesNumbers() {
        CallLedger x = new CallLedger();
        for (int i = 0; i < 24; i++) {
            Check.due("open " + i, x.open(i), i);
            Check.due("supply after open " + i, x.supply(), i * (i + 1) / 2);
            Check.due("storage of a new account", x.storage(i, i), 0);
        }
        Check.due("a 25th account", x.open(0), CallLedger.NONE);
        Check.dueThrow("a wrong 25th account", IllegalArgumentException.class, () -> x.open(-1));
        for (int i = 0; i < 24; i++) {
            Check.due("balance " + i, x.balance(i), i);
        }
        refusesAccount(x, 24);
        refusesAccount(x, -1);
    }

    private static void openRefuses() {
        CallLedger x = new CallLedger();
        Check.dueThrow("open(-1)", IllegalArgumentException.class, () -> x.open(-1));
        Check.dueThrow("open(MIN)", IllegalArgumentException.class, () -> x.open(Integer.MIN_VALUE));
        Check.due("open all but one", x.open(2147483646), 0);
        Check.due("open too much", x.open(2), CallLedger.NONE);
        Check.due("open far too much", x.open(2147483647), CallLedger.NONE);
        Check.due("supply after refusals", x.supply(), 2147483646);
        refusesAccount(x, 1);
        Check.due("open the last one", x.open(1), 1);
        Check.due("open one above", x.open(1), CallLedger.NONE);
        Check.due("open nothing", x.open(0), 2);
        Check.due("supply at its most", x.supply(), 2147483647);
    }

    private static void codeCounts() {
        CallLedger x = new CallLedger();
        x.open(0);
        x.open(0);
        for (int i = 1; i <= 160; i++) {
            Check.due("word " + i, x.code(0, Check.push(i)), i);
        }
        Check.due("word 161", x.code(0, 0), CallLedger.NONE);
        Check.due("word 162", x.code(0, 255), CallLedger.NONE);
        Check.due("first word of another code", x.code(1, 255), 1);
        Check.due("the long code is good", x.seal(0), CallLedger.NONE);
    }

    private static void codeRefuses() {
        CallLedger x = new CallLedger();
        Check.account(x, 0, Check.times(160, 0));
        Check.dueThrow("code behind a full sealed one", IllegalStateException.class, () -> x.code(0, 0));
        Check.account(x, 0);
        Check.dueThrow("code behind an empty sealed one", IllegalStateException.class, () -> x.code(1, 0));
        Check.dueThrow("code of no account", IndexOutOfBoundsException.class, () -> x.code(2, 0));
    }

    private static void sealTestsWords() {
        for (int instruction = 0; instruction < 256; instruction++) {
            for (int n : new int[] {-8388608, -1, 0, 1, 3, 4, 8, 9, 15, 16, 8388607}) {
                CallLedger x = new CallLedger();
                x.open(0);
                x.code(0, 0);
                x.code(0, Check.word(instruction, n));
                x.code(0, 0);
                int want = isGood(instruction, n, 3) ? CallLedger.NONE : 1;
                Check.due("seal of " + instruction + " with " + n, x.seal(0), want);
            }
        }
        for (int n = 159; n <= 161; n++) {
            CallLedger x = new CallLedger();
            x.open(0);
            for (int i = 0; i < 160; i++) {
                x.code(0, Check.word(17, n));
            }
            Check.due("seal of a jump to " + n, x.seal(0), n <= 160 ? CallLedger.NONE : 0);
        }
    }

    private static boolean isGood(int instruction, int n, int length) {
        return switch (instruction) {
            case 3 -> n >= 0 && n <= 15;
            case 4 -> n >= 1 && n <= 15;
            case 16, 17 -> n >= 0 && n <= length;
            case 27 -> n >= 0 && n <= 8;
            default -> instruction <= 29;
        };
    }

    private static void sealEmptiesBadCode() {
        CallLedger x = new CallLedger();
        x.open(0);
        x.code(0, Check.push(7));
        x.code(0, 26);
        x.code(0, 30);
        x.code(0, 31);
        Check.due("the first bad word", x.seal(0), 2);
        Check.due("the code is empty and open", x.code(0, Check.push(9)), 1);
        x.code(0, 26);
        Check.due("the second code is good", x.seal(0), CallLedger.NONE);
        Check.due("it runs", x.transact(0, 0, 0, 10), 0);
        Check.due("its result", x.result(), 9);
    }

    private static void sealRefuses() {
        CallLedger x = new CallLedger();
        x.open(0);
        Check.due("seal of an empty code", x.seal(0), CallLedger.NONE);
        Check.dueThrow("seal again", IllegalStateException.class, () -> x.seal(0));
        Check.dueThrow("seal of no account", IndexOutOfBoundsException.class, () -> x.seal(1));
    }

    private static void unsealedCodeIsEmpty() {
        CallLedger x = new CallLedger();
        x.open(5);
        x.code(0, Check.push(7));
        x.code(0, 29);
        Check.due("a code that is not sealed", x.transact(0, 0, 5, 0), 0);
        Check.due("its result", x.result(), 0);
        Check.due("it can grow", x.code(0, 0), 3);
        x.seal(0);
        Check.due("when sealed", x.transact(0, 0, 5, 2), 1);
        Check.due("its result when sealed", x.result(), 7);
    }

    private static void argumentsCount() {
        CallLedger x = new CallLedger();
        for (int i = 1; i <= 8; i++) {
            Check.due("argument " + i, x.argument(-i), i);
        }
        Check.due("a ninth argument", x.argument(1), CallLedger.NONE);
        int echo = Check.account(x, 0, Check.row(Check.push(7), 20, Check.push(8), 20, 5, 26));
        Check.dueThrow("a refused transaction", IllegalArgumentException.class,
                () -> x.transact(echo, echo, 1, 0));
        Check.due("arguments outlive a refusal", x.argument(1), CallLedger.NONE);
        Check.due("the echo", x.transact(echo, echo, 0, 100), 0);
        Check.due("argument 7 and no argument 8", x.result(), -8);
        Check.due("arguments are gone", x.argument(4), 1);
        Check.due("a trap", x.transact(echo, echo, 0, 0), 2);
        Check.due("arguments are gone with a trap", x.argument(4), 1);
        Check.due("no argument 7", x.transact(echo, echo, 0, 100), 0);
        Check.due("its result", x.result(), 0);
    }

    private static void balancesAndSupply() {
        CallLedger x = new CallLedger();
        x.open(2147483600);
        x.open(47);
        Check.due("all of it goes", x.transact(0, 1, 2147483600, 0), 0);
        Check.due("nothing is left", x.balance(0), 0);
        Check.due("the other has all", x.balance(1), 2147483647);
        Check.due("to itself", x.transact(1, 1, 2147483647, 0), 0);
        Check.due("it still has all", x.balance(1), 2147483647);
        Check.due("supply", x.supply(), 2147483647);
    }
}
