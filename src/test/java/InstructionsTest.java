/** What each instruction does, but for storage, log and calls: the table of "Terms". */
public final class InstructionsTest extends Bench {
    private static final int[] SOME = {0, 1, -1, 2, -2, 3, 7, -7, 1000003, 65535, 65536, -65536,
        MAX, MIN, MAX - 1, MIN + 1};

    public static void main(String[] args) {
        end();
        copies();
        swaps();
        sums();
        products();
        quotients();
        remainders();
        comparisons();
        bits();
        isZero();
        jumps();
        argumentsRead();
        caller();
        value();
        selfNumber();
        gasLeft();
        balances();
        balancesOf24();
        results();
        finish();
    }

    private static void computes(int instruction, int a, int b, int want) {
        gives(a + " (" + instruction + ") " + b, want, pushInt(a), pushInt(b), instruction, RETURN);
    }

    private static void end() {
        sentence("0 END: it ends well, the result 0");
        runs("END first", code(END, push(5), RETURN), 1, 0, 0, 1);
        runs("END behind numbers", code(push(5), END, RETURN), 100, 0, 0, 2);
        sentence("2 one is popped");
        gives("the one below is left", 4, push(4), push(5), DROP, RETURN);
    }

    /** Pushes 1 .. 20, does the word, drops so many, and must end with what is due. */
    private static void onTwenty(int word, int drops, int want) {
        int[] pushes = new int[20];
        for (int i = 0; i < 20; i++) {
            pushes[i] = push(i + 1);
        }
        gives("instruction " + (word & 255) + " with n " + (word >> 8) + ", " + drops + " dropped", want,
                pushes, word, times(drops, DROP), RETURN);
    }

    private static void copies() {
        sentence("3 the number n places below the top is pushed (0: the top)");
        for (int n = 0; n <= 15; n++) {
            onTwenty(copy(n), 0, 20 - n);
            onTwenty(copy(n), 1, 20);
            onTwenty(copy(n), n + 1, 20 - n);
        }
        gives("the only number", 5, push(5), copy(0), ADD, push(5), SUBTRACT, RETURN);
        gives("the lowest of 16", 9, push(9), times(15, push(1)), copy(15), RETURN);
    }

    private static void swaps() {
        sentence("4 the top and the number n places below it change places");
        for (int n = 1; n <= 15; n++) {
            onTwenty(swap(n), 0, 20 - n);
            onTwenty(swap(n), n, 20);
            onTwenty(swap(n), n + 1, 19 - n);
            if (n > 1) {
                onTwenty(swap(n), 1, 19);
                onTwenty(swap(n), n - 1, 21 - n);
            }
        }
        gives("the lowest of 16", 9, push(9), times(15, push(1)), swap(15), RETURN);
    }

    private static void sums() {
        sentence("All wraps to 32 bits");
        computes(ADD, MAX, 1, MIN);
        computes(ADD, MIN, -1, MAX);
        computes(ADD, MAX, MAX, -2);
        computes(ADD, MIN, MIN, 0);
        computes(SUBTRACT, MIN, 1, MAX);
        computes(SUBTRACT, MAX, -1, MIN);
        computes(SUBTRACT, 0, MIN, MIN);
        computes(SUBTRACT, MIN, MAX, 1);
        sentence("5 a + b; 6 a - b");
        computes(ADD, MAX - 1, 1, MAX);
        computes(SUBTRACT, MIN + 1, 1, MIN);
        for (int a : SOME) {
            for (int b : SOME) {
                computes(ADD, a, b, (int) ((long) a + b));
                computes(SUBTRACT, a, b, (int) ((long) a - b));
            }
        }
    }

    private static void products() {
        sentence("All wraps to 32 bits");
        computes(MULTIPLY, 65536, 65536, 0);
        computes(MULTIPLY, 65536, 32768, MIN);
        computes(MULTIPLY, 65535, 65537, -1);
        computes(MULTIPLY, MIN, -1, MIN);
        computes(MULTIPLY, MAX, 2, -2);
        computes(MULTIPLY, MAX, MAX, 1);
        sentence("7 a times b");
        for (int a : SOME) {
            for (int b : SOME) {
                computes(MULTIPLY, a, b, (int) ((long) a * b));
            }
        }
    }

    private static void quotients() {
        sentence("8 a by b, cut off; 0 if b is 0");
        computes(DIVIDE, 7, 0, 0);
        computes(DIVIDE, 0, 0, 0);
        computes(DIVIDE, MIN, 0, 0);
        computes(DIVIDE, 7, 2, 3);
        computes(DIVIDE, -7, 2, -3);
        computes(DIVIDE, 7, -2, -3);
        computes(DIVIDE, -7, -2, 3);
        computes(DIVIDE, -1, 2, 0);
        computes(DIVIDE, 6, 7, 0);
        computes(DIVIDE, 7, 7, 1);
        for (int a : SOME) {
            for (int b : SOME) {
                computes(DIVIDE, a, b, b == 0 ? 0 : (int) ((long) a / b));
            }
        }
        sentence("All wraps to 32 bits");
        computes(DIVIDE, MIN, -1, MIN);
        computes(DIVIDE, MIN + 1, -1, MAX);
    }

    private static void remainders() {
        sentence("9 a less b times that (a, if b is 0)");
        computes(REMAINDER, 7, 0, 7);
        computes(REMAINDER, 0, 0, 0);
        computes(REMAINDER, MIN, 0, MIN);
        computes(REMAINDER, 7, 2, 1);
        computes(REMAINDER, -7, 2, -1);
        computes(REMAINDER, 7, -2, 1);
        computes(REMAINDER, -7, -2, -1);
        computes(REMAINDER, 6, 7, 6);
        computes(REMAINDER, 7, 7, 0);
        computes(REMAINDER, MIN, -1, 0);
        for (int a : SOME) {
            for (int b : SOME) {
                computes(REMAINDER, a, b, b == 0 ? a : (int) ((long) a % b));
            }
        }
    }

    private static void comparisons() {
        sentence("10 1 if a is less than b, else 0");
        computes(IS_LESS, 1, 2, 1);
        computes(IS_LESS, 2, 2, 0);
        computes(IS_LESS, 3, 2, 0);
        computes(IS_LESS, -1, 0, 1);
        computes(IS_LESS, MIN, MAX, 1);
        computes(IS_LESS, MAX, MIN, 0);
        sentence("11 1 if a is b, else 0");
        computes(IS_SAME, 2, 1, 0);
        computes(IS_SAME, 2, 2, 1);
        computes(IS_SAME, 2, 3, 0);
        computes(IS_SAME, 1, -1, 0);
        computes(IS_SAME, MIN, MIN, 1);
        for (int a : SOME) {
            for (int b : SOME) {
                computes(IS_LESS, a, b, (long) a - b < 0 ? 1 : 0);
                computes(IS_SAME, a, b, (long) a - b == 0 ? 1 : 0);
            }
        }
    }

    private static void bits() {
        sentence("13 a and b, 14 or, 15 exclusive or, by bits");
        computes(AND, 12, 10, 8);
        computes(OR, 12, 10, 14);
        computes(XOR, 12, 10, 6);
        for (int a : SOME) {
            for (int b : SOME) {
                computes(AND, a, b, a & b);
                computes(OR, a, b, a | b);
                computes(XOR, a, b, a ^ b);
            }
        }
    }

    private static void isZero() {
        sentence("12 one is popped, and pushed 1 if it was 0, else 0");
        for (int a : SOME) {
            gives("of " + a, a == 0 ? 1 : 0, pushInt(a), IS_ZERO, RETURN);
        }
    }

    private static void jumps() {
        sentence("16 the place becomes n");
        gives("forwards", 8, jump(3), push(7), RETURN, push(8), RETURN);
        gives("backwards", 7, jump(3), push(7), RETURN, jump(1));
        gives("to the next word", 7, jump(1), push(7), RETURN);
        gives("to 0", 3, push(0), LOAD, push(3), IS_SAME, jumpIf(11),
                push(0), push(0), LOAD, push(1), ADD, jump(13), push(3), RETURN, STORE, jump(0));
        sentence("17 one is popped; the place becomes n if it isn't 0");
        for (int a : SOME) {
            gives("if " + a, a == 0 ? 7 : 8, pushInt(a), jumpIf(8), push(7), RETURN, push(8), RETURN);
        }
    }

    private static void argumentsRead() {
        sentence("20 i is popped, argument i pushed, 0 if there is none");
        CallLedger x = new CallLedger();
        int echo = account(x, 0, push(2), ARGUMENT, ARGUMENT, RETURN);
        int[][] asked = {{0, 50}, {1, 51}, {2, 0}, {3, 0}, {7, 0}, {8, 0}, {-1, 0}, {MIN, 0}, {MAX, 0}};
        for (int[] one : asked) {
            x.argument(50);
            x.argument(51);
            x.argument(one[0]);
            due("transact", x.transact(echo, echo, 0, 50), 0);
            due("argument " + one[0], x.result(), one[0] == 2 ? 2 : one[1]);
        }
        int seventh = account(x, 0, push(7), ARGUMENT, RETURN);
        int eighth = account(x, 0, push(8), ARGUMENT, RETURN);
        for (int account : new int[] {seventh, eighth}) {
            for (int i = 0; i < 8; i++) {
                x.argument(60 + i);
            }
            x.argument(99);
            due("transact", x.transact(echo, account, 0, 50), 0);
            due("of eight, the last and none", x.result(), account == seventh ? 67 : 0);
        }
        due("without arguments", x.transact(echo, seventh, 0, 50), 0);
        due("none of the last transaction's", x.result(), 0);
    }

    private static void caller() {
        sentence("21 the caller");
        CallLedger x = new CallLedger();
        account(x, 5);
        int asks = account(x, 5, CALLER, RETURN);
        int calls = account(x, 5, call(asks, 0, 50), DROP, RETURN);
        for (int from = 0; from < 3; from++) {
            x.transact(from, asks, 0, 50);
            due("of a transaction from " + from, x.result(), from);
        }
        x.transact(0, calls, 0, 500);
        due("of a call", x.result(), calls);
    }

    private static void value() {
        sentence("22 the value");
        CallLedger x = new CallLedger();
        account(x, MAX - 9);
        int asks = account(x, 0, VALUE, RETURN);
        int calls = account(x, 9, call(asks, 9, 50), DROP, RETURN);
        for (int amount : new int[] {0, 1, MAX - 10}) {
            x.transact(0, asks, amount, 50);
            due("of a transaction with " + amount, x.result(), amount);
        }
        x.transact(0, calls, 0, 500);
        due("of a call with 9", x.result(), 9);
    }

    private static void selfNumber() {
        sentence("23 the account's own number");
        CallLedger x = new CallLedger();
        account(x, 5, SELF, RETURN);
        for (int i = 1; i < 23; i++) {
            x.open(0);
        }
        account(x, 5, SELF, RETURN);
        x.transact(23, 0, 0, 50);
        due("the first", x.result(), 0);
        x.transact(0, 23, 0, 50);
        due("the 24th", x.result(), 23);
    }

    private static void gasLeft() {
        sentence("28 the gas that is left");
        runs("first, of 10000", TELLER, 10000, 0, 9999, 2);
        runs("of 2", TELLER, 2, 0, 1, 2);
        runs("nothing is left for what follows", TELLER, 1, 2, 0, 1);
        runs("behind a word", code(push(3), GAS, RETURN), 50, 0, 48, 3);
        CallLedger x = new CallLedger();
        int keeps = account(x, 0, push(3), GAS, STORE);
        due("with just enough for the store", x.transact(0, keeps, 0, 42), 0);
        due("the store's price was left", x.storage(0, 3), 40);
    }

    private static void balances() {
        sentence("account i's balance pushed, -1 if there is none such");
        CallLedger x = new CallLedger();
        account(x, 80);
        account(x, 17);
        int asks = account(x, 0, push(0), ARGUMENT, BALANCE, RETURN);
        int[][] asked = {{0, 80}, {1, 17}, {2, 0}, {3, -1}, {4, -1}, {23, -1}, {24, -1}, {-1, -1},
            {MIN, -1}, {MAX, -1}};
        for (int[] one : asked) {
            x.argument(one[0]);
            due("transact", x.transact(0, asks, 0, 50), 0);
            due("balance of " + one[0], x.result(), one[1]);
        }
        x.argument(asks);
        x.transact(1, asks, 17, 50);
        due("its own, with the amount", x.result(), 17);
        x.argument(1);
        x.transact(0, asks, 0, 50);
        due("of one that has nothing left", x.result(), 0);
    }

    private static void balancesOf24() {
        CallLedger x = new CallLedger();
        int asks = account(x, 3, push(0), ARGUMENT, BALANCE, RETURN);
        for (int i = 1; i < 24; i++) {
            x.open(100 + i);
        }
        int[][] asked = {{22, 122}, {23, 123}, {24, -1}, {25, -1}};
        for (int[] one : asked) {
            x.argument(one[0]);
            due("transact", x.transact(0, asks, 0, 50), 0);
            due("of 24, balance of " + one[0], x.result(), one[1]);
        }
    }

    private static void results() {
        sentence("26 one is popped: it ends well, with that as its result");
        for (int a : SOME) {
            gives("the result " + a, a, pushInt(a), RETURN, push(3), REVERT);
        }
        sentence("29 one is popped: it ends REVERTED, with that as its result");
        for (int a : SOME) {
            runs("the result " + a, code(pushInt(a), REVERT, push(3), RETURN), 100, 1, a, 7);
        }
    }
}
