/** Promise 6: the table of instructions, with each one's price, needs, traps and effect. */
public final class InstructionsTest {
    private static final int MIN = Integer.MIN_VALUE;
    private static final int MAX = Integer.MAX_VALUE;

    // instruction, n, price, numbers needed on the stack, growth of the stack
    private static final int[][] TABLE = {
        {0, 0, 1, 0, 0}, {1, 5, 1, 0, 1}, {2, 0, 1, 1, -1},
        {3, 0, 1, 1, 1}, {3, 15, 1, 16, 1}, {4, 1, 1, 2, 0}, {4, 15, 1, 16, 0},
        {5, 0, 1, 2, -1}, {6, 0, 1, 2, -1}, {7, 0, 2, 2, -1}, {8, 0, 3, 2, -1}, {9, 0, 3, 2, -1},
        {10, 0, 1, 2, -1}, {11, 0, 1, 2, -1}, {12, 0, 1, 1, 0},
        {13, 0, 1, 2, -1}, {14, 0, 1, 2, -1}, {15, 0, 1, 2, -1},
        {16, 0, 2, 0, 0}, {17, 0, 2, 1, -1}, {18, 0, 10, 1, 0}, {19, 0, 5, 2, -2},
        {20, 0, 1, 1, 0}, {21, 0, 1, 0, 1}, {22, 0, 1, 0, 1}, {23, 0, 1, 0, 1},
        {24, 0, 5, 1, 0}, {25, 0, 8, 1, -1}, {26, 0, 1, 1, -1},
        {27, 0, 25, 3, -1}, {27, 8, 25, 11, -9}, {28, 0, 1, 0, 1}, {29, 0, 1, 1, -1},
    };

    public static void main(String[] args) {
        for (int[] line : TABLE) {
            pricesAndTraps(line);
        }
        arithmetic();
        stackMoves();
        jumps();
        surroundings();
        endings();
        numbersHaveSigns();
        gasComesBeforeTheStack();
        Check.finish();
    }

    /** Runs the instruction behind so many zeros and then stops; all zeros, so 17 does not jump. */
    private static int run(CallLedger x, int[] line, int zeros, int gasForIt) {
        int instruction = Check.word(line[0], line[0] == 16 ? zeros + 1 : line[1]);
        int[] code = Check.join(Check.times(zeros, Check.push(0)), new int[] {instruction});
        int account = Check.account(x, 0, code);
        return x.transact(account, account, 0, zeros + gasForIt);
    }

    private static void pricesAndTraps(int[] line) {
        String name = "instruction " + line[0] + " with " + line[1];
        int price = line[2];
        int needs = line[3];
        CallLedger x = new CallLedger();
        Check.due(name + ", no gas", run(x, line, needs, price - 1), 2);
        Check.due(name + ", all gas is gone", x.used(), needs + price - 1);
        Check.due(name + ", gas", run(x, line, needs, price), line[0] == 29 ? 1 : 0);
        Check.due(name + ", used", x.used(), needs + price);
        Check.due(name + ", more gas", run(x, line, needs, price + 90), line[0] == 29 ? 1 : 0);
        Check.due(name + ", used of more", x.used(), needs + price);
        if (needs > 0) {
            Check.due(name + ", stack too short", run(x, line, needs - 1, price + 90), 3);
            Check.due(name + ", all gas is gone with 3", x.used(), needs - 1 + price + 90);
            Check.due(name + ", gas before stack", run(x, line, needs - 1, price - 1), 2);
        }
        int atFull = line[4] > 0 ? 4 : line[0] == 29 ? 1 : 0;
        Check.due(name + ", stack full", run(x, line, 32, price), atFull);
        Check.due(name + ", stack full but for one", run(x, line, 31, price), line[0] == 29 ? 1 : 0);
    }

    private static void computes(int instruction, int a, int b, int want) {
        CallLedger x = new CallLedger();
        int[] code = Check.join(Check.pushInt(a), Check.pushInt(b), new int[] {instruction, 26});
        int account = Check.account(x, 0, code);
        String name = a + " (" + instruction + ") " + b;
        Check.due(name + " ends", x.transact(account, account, 0, 100), 0);
        Check.due(name, x.result(), want);
    }

    private static void arithmetic() {
        int[] some = {0, 1, -1, 2, -2, 3, 7, -7, 1000003, 65536, -65536, MAX, MIN, MAX - 1, MIN + 1};
        for (int a : some) {
            for (int b : some) {
                long la = a;
                long lb = b;
                computes(5, a, b, (int) (la + lb));
                computes(6, a, b, (int) (la - lb));
                computes(7, a, b, (int) (la * lb));
                computes(8, a, b, b == 0 ? 0 : (int) (la / lb));
                computes(9, a, b, b == 0 ? a : (int) (la % lb));
                computes(10, a, b, la < lb ? 1 : 0);
                computes(11, a, b, la == lb ? 1 : 0);
                computes(13, a, b, a & b);
                computes(14, a, b, a | b);
                computes(15, a, b, a ^ b);
            }
            computes(12, 5, a, a == 0 ? 1 : 0);
        }
        computes(8, -7, 2, -3);
        computes(9, -7, 2, -1);
        computes(9, 7, -2, 1);
        computes(8, MIN, -1, MIN);
        computes(9, MIN, -1, 0);
    }

    /** Pushes 1 .. 20, does the instruction, and answers what is then n places below the top. */
    private static int after(int instruction, int n, int below) {
        CallLedger x = new CallLedger();
        int[] numbers = new int[20];
        for (int i = 0; i < 20; i++) {
            numbers[i] = i + 1;
        }
        int[] drops = Check.times(below, 2);
        int[] code = Check.join(Check.pushes(numbers), new int[] {Check.word(instruction, n)}, drops,
                new int[] {26});
        int account = Check.account(x, 0, code);
        Check.due("stack move ends", x.transact(account, account, 0, 100), 0);
        return x.result();
    }

    private static void stackMoves() {
        for (int n = 0; n <= 15; n++) {
            Check.due("copy " + n, after(3, n, 0), 20 - n);
            Check.due("below copy " + n, after(3, n, 1), 20);
            Check.due("copied " + n + " stays", after(3, n, n + 1), 20 - n);
        }
        for (int n = 1; n <= 15; n++) {
            Check.due("swap " + n, after(4, n, 0), 20 - n);
            Check.due("swapped " + n, after(4, n, n), 20);
            Check.due("behind swap " + n, after(4, n, n + 1), 19 - n);
        }
        Check.due("swap 2 leaves what is between", after(4, 2, 1), 19);
        Check.due("drop", after(2, 0, 0), 19);
    }

    private static int resultOf(int... words) {
        CallLedger x = new CallLedger();
        int account = Check.account(x, 0, words);
        Check.due("it ends", x.transact(account, account, 0, 1000), 0);
        return x.result();
    }

    private static void jumps() {
        int p7 = Check.push(7);
        int p8 = Check.push(8);
        Check.due("jump", resultOf(Check.word(16, 3), p7, 26, p8, 26), 8);
        Check.due("jump if 0", resultOf(Check.push(0), Check.word(17, 4), p7, 26, p8, 26), 7);
        Check.due("jump if 1", resultOf(Check.push(1), Check.word(17, 4), p7, 26, p8, 26), 8);
        Check.due("jump if -1", resultOf(Check.push(-1), Check.word(17, 4), p7, 26, p8, 26), 8);
        Check.due("jump to the end", resultOf(Check.word(16, 3), p7, 26), 0);
        Check.due("back", resultOf(Check.word(16, 3), p7, 26, Check.word(16, 1)), 7);
        CallLedger x = new CallLedger();
        int forever = Check.account(x, 0, Check.row(Check.word(16, 0)));
        Check.due("a loop ends without gas", x.transact(forever, forever, 0, 10000), 2);
        Check.due("a loop uses all", x.used(), 10000);
        int ones = Check.account(x, 0, Check.join(Check.row(Check.push(0), 2),
                Check.row(Check.word(16, 0))));
        Check.due("a cheap loop ends", x.transact(ones, ones, 0, 9999), 2);
        Check.due("a cheap loop uses all", x.used(), 9999);
    }

    private static void surroundings() {
        CallLedger x = new CallLedger();
        int payer = Check.account(x, 100);
        int caller = Check.account(x, 0, Check.row(21, 26));
        int value = Check.account(x, 0, Check.row(22, 26));
        int self = Check.account(x, 0, Check.row(23, 26));
        int gas = Check.account(x, 0, Check.row(Check.push(0), 28, 26));
        int balances = Check.account(x, 0, Check.row(Check.push(0), 20, 24, 26));
        x.transact(self, caller, 0, 9);
        Check.due("the caller", x.result(), self);
        x.transact(payer, value, 17, 9);
        Check.due("the value", x.result(), 17);
        x.transact(payer, self, 0, 9);
        Check.due("its own number", x.result(), self);
        x.transact(payer, gas, 0, 50);
        Check.due("the gas left", x.result(), 48);
        Check.due("the gas used", x.used(), 3);
        int[][] asked = {{payer, 80}, {value, 17}, {balances, 3}, {6, -1}, {-1, -1}, {24, -1}, {MIN, -1}};
        for (int[] one : asked) {
            x.argument(one[0]);
            Check.due("asking for a balance", x.transact(payer, balances, one[0] == payer ? 3 : 0, 50), 0);
            Check.due("balance of " + one[0], x.result(), one[1]);
        }
        argumentsAreRead();
    }

    private static void argumentsAreRead() {
        CallLedger x = new CallLedger();
        for (int i : new int[] {0, 1, 2, 3, 8, -1, 8388607, -8388608}) {
            x.argument(100);
            x.argument(101);
            x.argument(102);
            int echo = Check.account(x, 0, Check.row(Check.push(i), 20, 26));
            x.transact(echo, echo, 0, 50);
            Check.due("argument " + i, x.result(), i >= 0 && i < 3 ? 100 + i : 0);
        }
    }

    private static void endings() {
        Check.due("the empty code", resultOf(), 0);
        Check.due("behind the last word", resultOf(Check.push(5)), 0);
        Check.due("END", resultOf(Check.push(5), 0, 26), 0);
        Check.due("END with an n", resultOf(Check.push(5), Check.word(0, -3), 26), 0);
        Check.due("the result", resultOf(Check.push(5), Check.push(6), 26, 29), 6);
    }

    private static void numbersHaveSigns() {
        for (int n : new int[] {0, 1, -1, 8388607, -8388608}) {
            Check.due("push " + n, resultOf(Check.push(n), 26), n);
        }
    }

    private static void gasComesBeforeTheStack() {
        CallLedger x = new CallLedger();
        int full = Check.account(x, 0, Check.times(33, Check.push(0)));
        Check.due("no gas for the 33rd", x.transact(full, full, 0, 32), 2);
        Check.due("gas for the 33rd", x.transact(full, full, 0, 33), 4);
        Check.due("a trap's result", x.result(), 0);
        int call = Check.account(x, 5, Check.row(Check.push(1), Check.push(0), 27));
        int one = Check.account(x, 5, Check.row(Check.push(9), 27));
        Check.due("a call with one number costs 25", x.transact(one, one, 0, 26), 3);
        Check.due("and no less", x.transact(one, one, 0, 25), 2);
        Check.due("a short call with value costs 40", x.transact(call, call, 0, 41), 2);
        Check.due("a short call, paid", x.transact(call, call, 0, 43), 3);
        int store = Check.account(x, 5, Check.row(Check.push(9), 19));
        Check.due("a store with one number costs 5", x.transact(store, store, 0, 6), 3);
        Check.due("and no less", x.transact(store, store, 0, 5), 2);
    }
}
