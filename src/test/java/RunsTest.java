/** Runs: what "Terms" says of a run's stack, place, gas and traps, and each instruction's price. */
public final class RunsTest extends Bench {
    // instruction, n, price, numbers needed on the stack, growth of the stack; on a stack of zeros
    private static final int[][] TABLE = {
        {0, 0, 1, 0, 0}, {1, 5, 1, 0, 1}, {2, 0, 1, 1, -1},
        {3, 0, 1, 1, 1}, {3, 1, 1, 2, 1}, {3, 15, 1, 16, 1}, {4, 1, 1, 2, 0}, {4, 15, 1, 16, 0},
        {5, 0, 1, 2, -1}, {6, 0, 1, 2, -1}, {7, 0, 2, 2, -1}, {8, 0, 3, 2, -1}, {9, 0, 3, 2, -1},
        {10, 0, 1, 2, -1}, {11, 0, 1, 2, -1}, {12, 0, 1, 1, 0},
        {13, 0, 1, 2, -1}, {14, 0, 1, 2, -1}, {15, 0, 1, 2, -1},
        {16, 0, 2, 0, 0}, {17, 0, 2, 1, -1}, {18, 0, 10, 1, 0}, {19, 0, 5, 2, -2},
        {20, 0, 1, 1, 0}, {21, 0, 1, 0, 1}, {22, 0, 1, 0, 1}, {23, 0, 1, 0, 1},
        {24, 0, 5, 1, 0}, {25, 0, 8, 1, -1}, {26, 0, 1, 1, -1},
        {27, 0, 25, 3, -1}, {27, 1, 25, 4, -2}, {27, 8, 25, 11, -9}, {28, 0, 1, 0, 1}, {29, 0, 1, 1, -1},
    };

    public static void main(String[] args) {
        placeIsTheLength();
        stackIsEmptyAtFirst();
        placeIsZeroAtFirst();
        stackUpTo32();
        for (int[] line : TABLE) {
            lessGasThanThePrice(line);
            fewerNumbersThanNeeded(line);
            moreThan32(line);
        }
        gasIsZeroWithATrap();
        gasComesBeforeTheStack();
        numbersStayOnTheStack();
        aLoopEnds();
        finish();
    }

    /** The instruction behind so many zeros; a jump goes to the code's end. */
    private static int[] behindZeros(int[] line, int zeros) {
        int n = line[0] == 16 ? zeros + 1 : line[1];
        return code(times(zeros, push(0)), word(line[0], n));
    }

    private static String name(int[] line) {
        return "instruction " + line[0] + " with n " + line[1];
    }

    private static int wellOrReverted(int[] line) {
        return line[0] == 29 ? 1 : 0;
    }

    private static void placeIsTheLength() {
        sentence("if the place is the code's length, it ends well, with the result 0");
        runs("an empty code without gas", code(), 0, 0, 0, 0);
        runs("an empty code with gas", code(), 10000, 0, 0, 0);
        runs("behind the last word without gas left", code(push(5)), 1, 0, 0, 1);
        runs("before the last word without gas left", code(push(5), push(6)), 1, 2, 0, 1);
        runs("a jump to the length", code(jump(2), DROP), 2, 0, 0, 2);
        runs("a jump to one word before", code(jump(1), DROP), 9, 3, 0, 9);
        runs("a jump if to the length", code(push(1), jumpIf(3), DROP), 3, 0, 0, 3);
        runs("a jump if to one word before", code(push(1), jumpIf(2), DROP), 9, 3, 0, 9);
        runs("a jump if not taken, as the last word", code(push(0), jumpIf(0)), 3, 0, 0, 3);
    }

    private static void stackIsEmptyAtFirst() {
        sentence("a stack (empty; up to 32 numbers)");
        CallLedger x = new CallLedger();
        int leaver = account(x, 0, push(0), ARGUMENT, jumpIf(6), push(8), push(9), END, DROP);
        due("two numbers are left", x.transact(0, leaver, 0, 100), 0);
        x.argument(1);
        due("the next run has none of them", x.transact(0, leaver, 0, 100), 3);
        int dropper = account(x, 0, DROP, push(1), RETURN);
        due("nor has another account's", x.transact(0, dropper, 0, 100), 3);
        int within = account(x, 0, push(5), push(5), call(dropper, 0, 100), BOTH);
        due("a caller with numbers", x.transact(0, within, 0, 500), 0);
        due("a run within has none of them", x.result(), 0);
        int second = account(x, 0, call(leaver, 0, 100), call(dropper, 0, 100), BOTH);
        due("a caller of two", x.transact(0, second, 0, 500), 0);
        due("the second has none of the first's", x.result(), 0);
        int own = account(x, 0, push(77), call(leaver, 0, 100), DROP, DROP, RETURN);
        due("a caller of one that leaves numbers", x.transact(0, own, 0, 500), 0);
        due("it has its own", x.result(), 77);
    }

    private static void placeIsZeroAtFirst() {
        sentence("a place (0)");
        CallLedger x = new CallLedger();
        int answers = account(x, 0, push(7), RETURN, push(8), RETURN);
        int caller = account(x, 0, call(answers, 0, 50), DROP, DROP, call(answers, 0, 50), BOTH);
        for (int i = 0; i < 2; i++) {
            due("transact", x.transact(0, answers, 0, 50), 0);
            due("its result", x.result(), 7);
            due("transact with calls", x.transact(0, caller, 0, 500), 0);
            due("its result with calls", x.result(), 71);
        }
    }

    private static void stackUpTo32() {
        sentence("if it would have more than 32 behind it, 4");
        runs("31 numbers", times(31, push(1)), 31, 0, 0, 31);
        runs("32 numbers", times(32, push(1)), 32, 0, 0, 32);
        runs("33 numbers", times(33, push(1)), 33, 4, 0, 33);
        gives("32 numbers are all there", 32, times(32, push(1)), times(31, ADD), RETURN);
        gives("31 and one more", 9, times(31, push(1)), push(9), RETURN);
        CallLedger x = new CallLedger();
        int full = account(x, 0, times(32, push(1)));
        int caller = account(x, 0, times(29, push(1)), call(full, 0, 50), BOTH);
        due("a caller whose stack is full", x.transact(0, caller, 0, 500), 0);
        due("a run within has room for 32", x.result(), 1);
    }

    private static void lessGasThanThePrice(int[] line) {
        sentence("if it has less gas than that, it ends with the TRAP 2");
        int price = line[2];
        int zeros = line[3];
        int[] words = behindZeros(line, zeros);
        runs(name(line) + ", 1 too little", words, zeros + price - 1, 2, 0, zeros + price - 1);
        runs(name(line) + ", just enough", words, zeros + price, wellOrReverted(line), 0, zeros + price);
        runs(name(line) + ", 1 more", words, zeros + price + 1, wellOrReverted(line), 0, zeros + price);
    }

    private static void fewerNumbersThanNeeded(int[] line) {
        sentence("If the stack has fewer numbers than the instruction needs, the trap is 3");
        int needs = line[3];
        for (int zeros = 0; zeros < needs; zeros++) {
            runs(name(line) + " behind " + zeros, behindZeros(line, zeros), zeros + 90, 3, 0, zeros + 90);
        }
        runs(name(line) + " behind " + needs, behindZeros(line, needs), needs + 90,
                wellOrReverted(line), 0, needs + line[2]);
        if (needs > 0) {
            sentence("Otherwise it pays the instruction's price");
            int zeros = needs - 1;
            int enough = zeros + line[2];
            runs(name(line) + ", short, 1 too little", behindZeros(line, zeros), enough - 1, 2, 0, enough - 1);
            runs(name(line) + ", short, just enough", behindZeros(line, zeros), enough, 3, 0, enough);
        }
    }

    private static void moreThan32(int[] line) {
        sentence("if it would have more than 32 behind it, 4");
        int price = line[2];
        int well = wellOrReverted(line);
        runs(name(line) + " behind 31", behindZeros(line, 31), 31 + price, well, 0, 31 + price);
        int ending = line[4] > 0 ? 4 : well;
        runs(name(line) + " behind 32", behindZeros(line, 32), 32 + price, ending, 0, 32 + price);
        runs(name(line) + " behind 32, 1 too little", behindZeros(line, 32), 31 + price, 2, 0, 31 + price);
    }

    private static void gasIsZeroWithATrap() {
        sentence("(its gas is 0 then)");
        runs("trap 2 with some gas left", code(push(1), LOAD), 10, 2, 0, 10);
        runs("trap 3 with much gas left", code(DROP), 10000, 3, 0, 10000);
        runs("trap 4 with much gas left", times(33, push(1)), 10000, 4, 0, 10000);
        runs("trap 2 without gas", code(push(1)), 0, 2, 0, 0);
    }

    private static void gasComesBeforeTheStack() {
        sentence("Otherwise it pays the instruction's price");
        runs("no gas and no number", code(DROP), 0, 2, 0, 0);
        runs("gas and no number", code(DROP), 1, 3, 0, 1);
        runs("no gas and no room", times(33, push(1)), 32, 2, 0, 32);
        runs("gas and no room", times(33, push(1)), 33, 4, 0, 33);
    }

    private static void numbersStayOnTheStack() {
        sentence("POPPED: taken from the top, in the order told; PUSHED: put there");
        for (int zeros = 0; zeros <= 2; zeros++) {
            gives("what is below stays", 6, push(6), times(zeros, push(0)), times(zeros, DROP), RETURN);
        }
        gives("6 behind a sum", 6, push(6), push(1), push(2), ADD, DROP, RETURN);
        gives("the sum", 3, push(6), push(1), push(2), ADD, RETURN);
        gives("6 behind a store", 6, push(6), push(1), push(2), STORE, RETURN);
        gives("6 behind a load", 6, push(6), push(1), LOAD, DROP, RETURN);
        gives("6 behind a number logged", 6, push(6), push(1), LOG, RETURN);
        gives("6 behind a balance", 6, push(6), push(1), BALANCE, DROP, RETURN);
        gives("6 behind an argument", 6, push(6), push(1), ARGUMENT, DROP, RETURN);
        gives("6 behind a test for 0", 6, push(6), push(1), IS_ZERO, DROP, RETURN);
        gives("6 behind a jump if", 6, push(6), push(1), jumpIf(3), RETURN);
        gives("6 behind a jump if that is not taken", 6, push(6), push(0), jumpIf(2), RETURN);
        gives("6 behind a jump", 6, push(6), jump(2), RETURN);
    }

    private static void aLoopEnds() {
        sentence("As long as it goes on");
        runs("a jump to itself", code(jump(0)), 10000, 2, 0, 10000);
        runs("a jump to itself with odd gas", code(jump(0)), 9999, 2, 0, 9999);
        runs("a loop of cheap words", code(times(79, push(0), DROP), jump(0)), 10000, 2, 0, 10000);
        int[] loop = code(push(1999), push(1), SUBTRACT, copy(0), jumpIf(1));
        runs("a loop that ends well", loop, 10000, 0, 0, 9996);
        runs("all gas, and it ends well", code(loop, times(4, push(0))), 10000, 0, 0, 10000);
        runs("one word more than the gas", code(loop, times(5, push(0))), 10000, 2, 0, 10000);
    }
}
