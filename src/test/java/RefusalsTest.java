/** "A call that throws, or answers NONE, changes nothing", for each method that can. */
public final class RefusalsTest extends Bench {
    private static final String UNCHANGED = "a call that throws, or answers NONE, changes nothing";

    public static void main(String[] args) {
        refusedOpens();
        refusedCodes();
        refusedSeals();
        refusedTransactions();
        refusedQuestions();
        openAtTheMost();
        codeAtTheMost();
        argumentAtTheMost();
        questionsChangeNothing();
        finish();
    }

    /** Account 0 is sealed and has stored and logged, 1 has two words, and two arguments wait. */
    private static CallLedger prepared() {
        CallLedger x = new CallLedger();
        account(x, 50, push(1), push(5), STORE, push(3), LOG, push(0), ARGUMENT, push(9), ADD, RETURN);
        x.open(20);
        x.code(1, push(1));
        x.code(1, ARGUMENT);
        x.transact(1, 0, 4, 200);
        x.argument(30);
        x.argument(31);
        return x;
    }

    private static final String PREPARED = "54:5, 16:0, supply 70 keys 1 log 3 used 56 result 9";

    /** That nothing has changed: what is told, the waiting words and arguments, and the numbers. */
    private static void dueAsPrepared(String name, CallLedger x) {
        due(name + ": all that is told", state(x, 1), PREPARED);
        due(name + ": a third word", x.code(1, RETURN), 3);
        due(name + ": seal", x.seal(1), NONE);
        due(name + ": a third argument", x.argument(32), 3);
        due(name + ": the three words run", x.transact(0, 1, 0, 3), 0);
        due(name + ": with argument 1", x.result(), 31);
        due(name + ": the first code runs", x.transact(1, 0, 0, 200), 0);
        due(name + ": without arguments", x.result(), 9);
        due(name + ": the next account", x.open(1), 2);
    }

    private static void refusedOpens() {
        sentence(UNCHANGED);
        for (int balance : new int[] {-1, MIN}) {
            CallLedger x = prepared();
            wrongArgument("open(" + balance + ")", () -> x.open(balance));
            dueAsPrepared("open(" + balance + ")", x);
        }
        for (int balance : new int[] {MAX, MAX - 69}) {
            CallLedger x = prepared();
            due("open(" + balance + ")", x.open(balance), NONE);
            dueAsPrepared("open(" + balance + ")", x);
        }
    }

    private static void refusedCodes() {
        sentence(UNCHANGED);
        CallLedger x = prepared();
        wrongState("code(0, 0)", () -> x.code(0, 0));
        dueAsPrepared("code(0, 0)", x);
        for (int account : new int[] {-1, 2, MIN, MAX}) {
            CallLedger y = prepared();
            outOfBounds("code(" + account + ", 0)", () -> y.code(account, 0));
            dueAsPrepared("code(" + account + ", 0)", y);
        }
    }

    private static void refusedSeals() {
        sentence(UNCHANGED);
        CallLedger x = prepared();
        wrongState("seal(0)", () -> x.seal(0));
        dueAsPrepared("seal(0)", x);
        for (int account : new int[] {-1, 2, MIN, MAX}) {
            CallLedger y = prepared();
            outOfBounds("seal(" + account + ")", () -> y.seal(account));
            dueAsPrepared("seal(" + account + ")", y);
        }
    }

    private static void refusedTransactions() {
        sentence(UNCHANGED);
        int[][] noAccounts = {{-1, 0, 0, 9}, {2, 0, 0, 9}, {0, -1, 5, 9}, {0, 2, 5, 9}, {0, 2, 55, -1}};
        for (int[] one : noAccounts) {
            CallLedger x = prepared();
            outOfBounds("transact", () -> x.transact(one[0], one[1], one[2], one[3]));
            dueAsPrepared("transact from " + one[0] + " to " + one[1], x);
        }
        int[][] wrongs = {{0, 1, -1, 9}, {0, 1, 55, 9}, {1, 0, 17, 9}, {0, 0, 55, 9}, {0, 1, 5, -1},
            {0, 1, 5, 10001}, {1, 0, 16, 10001}, {0, 0, MIN, 9}, {0, 1, 5, MAX}};
        for (int[] one : wrongs) {
            CallLedger x = prepared();
            wrongArgument("transact", () -> x.transact(one[0], one[1], one[2], one[3]));
            dueAsPrepared("transact of " + one[2] + " with " + one[3], x);
        }
    }

    private static void refusedQuestions() {
        sentence(UNCHANGED);
        CallLedger x = prepared();
        outOfBounds("balance(2)", () -> x.balance(2));
        outOfBounds("balance(-1)", () -> x.balance(-1));
        outOfBounds("storage(2, 1)", () -> x.storage(2, 1));
        outOfBounds("storage(-1, 1)", () -> x.storage(-1, 1));
        outOfBounds("log(1)", () -> x.log(1));
        outOfBounds("log(-1)", () -> x.log(-1));
        dueAsPrepared("questions", x);
    }

    private static void openAtTheMost() {
        sentence(UNCHANGED);
        CallLedger x = new CallLedger();
        for (int i = 0; i < 24; i++) {
            x.open(i);
        }
        String before = state(x, 0);
        due("a 25th account", x.open(7), NONE);
        due("a 25th account with nothing", x.open(0), NONE);
        due("all that is told", state(x, 0), before);
        due("transact from the last", x.transact(23, 0, 23, 0), 0);
        outOfBounds("transact to a 25th", () -> x.transact(0, 24, 0, 0));
    }

    private static void codeAtTheMost() {
        sentence(UNCHANGED);
        CallLedger x = new CallLedger();
        x.open(0);
        x.open(0);
        for (int word : code(jump(159), times(157, END), push(7), RETURN)) {
            x.code(0, word);
        }
        x.code(1, push(8));
        x.code(1, RETURN);
        due("a 161st word", x.code(0, 255), NONE);
        due("a 161st word again", x.code(0, push(1)), NONE);
        due("seal, with no bad word", x.seal(0), NONE);
        due("the next account's words", x.seal(1), NONE);
        due("transact, the last word without a number", x.transact(0, 0, 0, 50), 3);
        due("transact to the next account", x.transact(0, 1, 0, 50), 0);
        due("its result", x.result(), 8);
    }

    private static void argumentAtTheMost() {
        sentence(UNCHANGED);
        CallLedger x = new CallLedger();
        int echo = account(x, 0, push(8), ARGUMENT, push(7), ARGUMENT, push(0), ARGUMENT, ADD, ADD, RETURN);
        for (int i = 1; i <= 8; i++) {
            x.argument(1000 * i);
        }
        due("a ninth", x.argument(5), NONE);
        due("a ninth again", x.argument(6), NONE);
        due("transact", x.transact(echo, echo, 0, 50), 0);
        due("the first, the eighth, and no ninth", x.result(), 9000);
        due("none is left over", x.transact(echo, echo, 0, 50), 0);
        due("none is left over", x.result(), 0);
        due("the next one is the first", x.argument(5), 1);
    }

    private static void questionsChangeNothing() {
        sentence("Nothing is promised beyond the answers and state changes described above");
        CallLedger x = prepared();
        for (int i = 0; i < 3; i++) {
            due("all that is told", state(x, 1), PREPARED);
        }
        dueAsPrepared("asked three times", x);
    }
}
