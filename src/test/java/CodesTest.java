/** Codes: promises 3 and 4, and what "Terms" says of words and of sealing. */
public final class CodesTest extends Bench {
    public static void main(String[] args) {
        upTo160Words();
        allOf160WordsRun();
        codeOfASealedOne();
        codesAreApart();
        lowestEightBits();
        numbersHaveSigns();
        instructionsToldHere();
        numberOf3();
        numberOf4();
        numberOf16And17();
        numberOf27();
        allElseIsGood();
        firstBadWord();
        emptyThenAndNotSealed();
        roomAgainBehindABadWord();
        sealOfAnEmptyCode();
        sealOfASealedOne();
        notSealedIsAsIfEmpty();
        finish();
    }

    /** What sealing a new account's code answers. */
    private static int sealing(int... words) {
        CallLedger x = new CallLedger();
        x.open(0);
        for (int word : words) {
            x.code(0, word);
        }
        return x.seal(0);
    }

    private static void good(int word) {
        due("seal of " + (word & 255) + " with n " + (word >> 8), sealing(END, word, END), NONE);
    }

    private static void bad(int word) {
        due("seal of " + (word & 255) + " with n " + (word >> 8), sealing(END, word, END), 1);
    }

    private static void upTo160Words() {
        sentence("Answers how many it has; NONE when it has 160");
        CallLedger x = new CallLedger();
        x.open(0);
        for (int i = 1; i <= 159; i++) {
            due("word " + i, x.code(0, push(i)), i);
        }
        due("word 160", x.code(0, push(8)), 160);
        due("word 161", x.code(0, push(8)), NONE);
        due("word 161 again, a bad one", x.code(0, 255), NONE);
        due("the code stays good", x.seal(0), NONE);
    }

    private static void allOf160WordsRun() {
        sentence("a CODE of up to 160 words");
        CallLedger x = new CallLedger();
        x.open(0);
        for (int word : code(times(79, push(3), DROP), push(7), RETURN)) {
            x.code(0, word);
        }
        due("word 161", x.code(0, END), NONE);
        due("seal", x.seal(0), NONE);
        due("transact", x.transact(0, 0, 0, 160), 0);
        due("the result of the last word", x.result(), 7);
        due("used", x.used(), 160);
        due("the last word is not paid", x.transact(0, 0, 0, 159), 2);
        int whole = account(x, 0, times(80, push(3), DROP));
        due("160 words and no end", x.transact(0, whole, 0, 160), 0);
    }

    private static void codeOfASealedOne() {
        sentence("IllegalStateException: its code is sealed");
        CallLedger x = new CallLedger();
        account(x, 0);
        account(x, 0, push(7), RETURN);
        wrongState("behind an empty one", () -> x.code(0, END));
        wrongState("behind one with words", () -> x.code(1, END));
        wrongState("a bad word", () -> x.code(1, 255));
        x.transact(0, 1, 0, 10);
        due("it runs as before", x.result(), 7);
        x.open(0);
        due("one that is not sealed", x.code(2, END), 1);
        sentence("Exceptions come before NONE");
        account(x, 0, times(160, END));
        wrongState("behind a full one", () -> x.code(3, END));
    }

    private static void codesAreApart() {
        sentence("A word comes behind an account's code");
        CallLedger x = new CallLedger();
        x.open(0);
        x.open(0);
        x.open(0);
        for (int word : times(80, push(1), DROP)) {
            x.code(1, word);
        }
        due("the account before", x.code(0, push(4)), 1);
        due("the account behind", x.code(2, push(5)), 1);
        due("the account before again", x.code(0, RETURN), 2);
        due("the account behind again", x.code(2, RETURN), 2);
        x.seal(0);
        x.seal(1);
        x.seal(2);
        int[] results = {4, 0, 5};
        for (int i = 0; i < 3; i++) {
            due("transact", x.transact(0, i, 0, 500), 0);
            due("result of " + i, x.result(), results[i]);
        }
    }

    private static void lowestEightBits() {
        sentence("the lowest eight bits are the INSTRUCTION");
        gives("RETURN with n -1", 9, push(9), word(26, -1));
        gives("RETURN with the least n", 9, push(9), word(26, LEAST_N));
        gives("RETURN with the most n", 9, push(9), word(26, MOST_N));
        gives("RETURN with n 1", 9, push(9), word(26, 1));
        gives("END with n 26", 0, push(9), word(0, 26));
        good(MIN);
        bad(-1);
        bad(MAX);
    }

    private static void numbersHaveSigns() {
        sentence("the others the number n, with a sign");
        for (int n : new int[] {LEAST_N, LEAST_N + 1, -256, -1, 0, 1, 127, 128, 255, 256, MOST_N - 1, MOST_N}) {
            gives("push of " + n, n, push(n), RETURN);
        }
    }

    private static void instructionsToldHere() {
        sentence("the instruction must be told here");
        for (int instruction = 0; instruction <= 29; instruction++) {
            good(word(instruction, 1));
        }
        for (int instruction = 30; instruction <= 255; instruction++) {
            bad(word(instruction, 1));
            bad(word(instruction, 0));
        }
    }

    private static void numberOf3() {
        sentence("n of 3 must be 0 .. 15");
        for (int n = 0; n <= 15; n++) {
            good(copy(n));
        }
        for (int n : new int[] {LEAST_N, -2, -1, 16, 17, MOST_N}) {
            bad(copy(n));
        }
    }

    private static void numberOf4() {
        sentence("of 4 1 .. 15");
        for (int n = 1; n <= 15; n++) {
            good(swap(n));
        }
        for (int n : new int[] {LEAST_N, -1, 0, 16, 17, MOST_N}) {
            bad(swap(n));
        }
    }

    private static void numberOf16And17() {
        sentence("of 16 and 17 0 .. the code's length");
        for (int instruction = 16; instruction <= 17; instruction++) {
            for (int n = 0; n <= 3; n++) {
                good(word(instruction, n));
            }
            for (int n : new int[] {LEAST_N, -1, 4, 5, MOST_N}) {
                bad(word(instruction, n));
            }
            due("alone, to 0", sealing(word(instruction, 0)), NONE);
            due("alone, to 1", sealing(word(instruction, 1)), NONE);
            due("alone, to 2", sealing(word(instruction, 2)), 0);
            due("the first word, to the end", sealing(code(word(instruction, 5), times(4, END))), NONE);
            due("the first word, behind the end", sealing(code(word(instruction, 6), times(4, END))), 0);
            due("the last word, to the end", sealing(code(times(4, END), word(instruction, 5))), NONE);
            due("the last word, behind the end", sealing(code(times(4, END), word(instruction, 6))), 4);
            due("of 160 words, to 160", sealing(times(160, word(instruction, 160))), NONE);
            due("of 160 words, to 161", sealing(times(160, word(instruction, 161))), 0);
            due("of 159 words, to 160", sealing(times(159, word(instruction, 160))), 0);
        }
    }

    private static void numberOf27() {
        sentence("of 27 0 .. 8");
        for (int n = 0; n <= 8; n++) {
            good(word(27, n));
        }
        for (int n : new int[] {LEAST_N, -1, 9, 10, MOST_N}) {
            bad(word(27, n));
        }
    }

    private static void allElseIsGood() {
        sentence("all else is good");
        for (int instruction = 0; instruction <= 29; instruction++) {
            boolean bound = instruction == 3 || instruction == 4 || instruction == 16
                    || instruction == 17 || instruction == 27;
            for (int n : new int[] {LEAST_N, -1, 0, 16, 161, MOST_N}) {
                if (!bound) {
                    good(word(instruction, n));
                }
            }
        }
    }

    private static void firstBadWord() {
        sentence("the place of the first word that is not good");
        due("the first of one", sealing(30), 0);
        due("the first of two", sealing(30, END), 0);
        due("the last of two", sealing(END, 30), 1);
        due("the last of 160", sealing(code(times(159, END), swap(0))), 159);
        due("the first of two bad ones", sealing(END, END, copy(16), 255, END), 2);
        due("all are bad", sealing(255, 255, 255), 0);
    }

    private static void emptyThenAndNotSealed() {
        sentence("the code is empty then, and not sealed");
        CallLedger x = new CallLedger();
        x.open(5);
        for (int word : code(push(7), REVERT, END, END, 30)) {
            x.code(0, word);
        }
        due("a bad word", x.seal(0), 4);
        due("an empty code runs", x.transact(0, 0, 5, 0), 0);
        due("its first word", x.code(0, jump(2)), 1);
        due("the length is that of the new code", x.seal(0), 0);
        due("empty again", x.code(0, push(9)), 1);
        due("the second word", x.code(0, RETURN), 2);
        due("a good code", x.seal(0), NONE);
        wrongState("sealed now", () -> x.code(0, END));
        due("it runs", x.transact(0, 0, 5, 2), 0);
        due("its result", x.result(), 9);
        emptyThenCanBeSealed();
    }

    private static void emptyThenCanBeSealed() {
        CallLedger x = new CallLedger();
        x.open(0);
        x.code(0, 30);
        due("a bad word", x.seal(0), 0);
        due("the empty code is good", x.seal(0), NONE);
        due("it is empty", x.transact(0, 0, 0, 0), 0);
    }

    private static void roomAgainBehindABadWord() {
        sentence("the code is empty then, and not sealed");
        CallLedger x = new CallLedger();
        x.open(0);
        for (int word : code(times(159, END), 30)) {
            x.code(0, word);
        }
        due("full", x.code(0, END), NONE);
        due("the last word is bad", x.seal(0), 159);
        for (int i = 1; i <= 160; i++) {
            due("word " + i + " of the new code", x.code(0, END), i);
        }
        due("full again", x.code(0, END), NONE);
        due("good now", x.seal(0), NONE);
    }

    private static void sealOfAnEmptyCode() {
        sentence("Seals an account's code. Answers NONE");
        due("of no words", sealing(), NONE);
        due("of one word", sealing(END), NONE);
        due("of 160 words", sealing(times(160, END)), NONE);
    }

    private static void sealOfASealedOne() {
        sentence("IllegalStateException: it is sealed");
        CallLedger x = new CallLedger();
        account(x, 0);
        account(x, 0, push(7), RETURN);
        x.open(0);
        wrongState("an empty one", () -> x.seal(0));
        wrongState("one with words", () -> x.seal(1));
        x.transact(0, 1, 0, 10);
        due("it runs as before", x.result(), 7);
        due("another one is not sealed", x.seal(2), NONE);
    }

    private static void notSealedIsAsIfEmpty() {
        sentence("A code that is not sealed is as if empty");
        CallLedger x = new CallLedger();
        x.open(5);
        x.code(0, push(7));
        x.code(0, REVERT);
        int caller = account(x, 9, call(0, 2, 50), BOTH);
        due("a transaction to it, without gas", x.transact(0, 0, 5, 0), 0);
        due("its result", x.result(), 0);
        due("used", x.used(), 0);
        due("a call of it", x.transact(0, caller, 0, 500), 0);
        due("the call ended well, with 0", x.result(), 1);
        due("the call's amount went", x.balance(0), 7);
        due("it still has its words", x.code(0, END), 3);
        due("seal", x.seal(0), NONE);
        due("a transaction to it, sealed", x.transact(0, 0, 5, 2), 1);
        due("its result", x.result(), 7);
        due("a call of it, sealed", x.transact(0, caller, 0, 500), 0);
        due("the call reverted, with 7", x.result(), 70);
    }
}
