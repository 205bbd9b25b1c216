import java.util.ArrayList;
import java.util.List;

/** What the tests share: words by name, codes made of them, and one transaction's answers. */
abstract class Bench extends Check {
    static final int NONE = CallLedger.NONE;
    static final int MIN = Integer.MIN_VALUE;
    static final int MAX = Integer.MAX_VALUE;
    // the least and the most that a word's n can be
    static final int LEAST_N = -8388608;
    static final int MOST_N = 8388607;

    static final int END = 0;
    static final int DROP = 2;
    static final int ADD = 5;
    static final int SUBTRACT = 6;
    static final int MULTIPLY = 7;
    static final int DIVIDE = 8;
    static final int REMAINDER = 9;
    static final int IS_LESS = 10;
    static final int IS_SAME = 11;
    static final int IS_ZERO = 12;
    static final int AND = 13;
    static final int OR = 14;
    static final int XOR = 15;
    static final int LOAD = 18;
    static final int STORE = 19;
    static final int ARGUMENT = 20;
    static final int CALLER = 21;
    static final int VALUE = 22;
    static final int SELF = 23;
    static final int BALANCE = 24;
    static final int LOG = 25;
    static final int RETURN = 26;
    static final int GAS = 28;
    static final int REVERT = 29;

    /** Stores argument 1 for the key that argument 0 tells; pays 4 beside the store. */
    static final int[] WRITER = code(push(0), ARGUMENT, push(1), ARGUMENT, STORE);

    /** Stores n, n - 1, .. 1, where argument 1 is n (185 at most), for the keys from argument 0 down. */
    static final int[] FILLER = code(
            push(0), ARGUMENT, push(1), ARGUMENT,
            copy(0), IS_ZERO, jumpIf(17),
            copy(1), copy(1), STORE,
            push(1), SUBTRACT, swap(1), push(1), SUBTRACT, swap(1), jump(4));

    /** Tells the gas that it was given, less 1. */
    static final int[] TELLER = code(GAS, RETURN);

    /** Behind a call: ends with 10 times its result, and 1 more if it ended well. */
    static final int[] BOTH = code(swap(1), push(10), MULTIPLY, ADD, RETURN);

    static int word(int instruction, int n) {
        return (n << 8) | instruction;
    }

    static int push(int n) {
        return word(1, n);
    }

    static int copy(int n) {
        return word(3, n);
    }

    static int swap(int n) {
        return word(4, n);
    }

    static int jump(int n) {
        return word(16, n);
    }

    static int jumpIf(int n) {
        return word(17, n);
    }

    /** Joins words, and rows of words, to one code. */
    static int[] code(Object... parts) {
        List<Integer> words = new ArrayList<>();
        for (Object part : parts) {
            if (part instanceof int[] row) {
                for (int word : row) {
                    words.add(word);
                }
            } else {
                words.add((Integer) part);
            }
        }
        return words.stream().mapToInt(Integer::intValue).toArray();
    }

    static int[] times(int count, int... words) {
        int[] all = new int[count * words.length];
        for (int i = 0; i < all.length; i++) {
            all[i] = words[i % words.length];
        }
        return all;
    }

    /** Pushes any int, in five words that cost 6 and need room for three numbers. */
    static int[] pushInt(int number) {
        return code(push(number >> 16), push(1 << 16), MULTIPLY, push(number & 0xffff), OR);
    }

    /** Calls t with v, g and the arguments; it pays 3, and 1 for each argument, beside the call. */
    static int[] call(int t, int v, int g, int... arguments) {
        int[] pushes = new int[arguments.length];
        for (int i = 0; i < pushes.length; i++) {
            pushes[i] = push(arguments[arguments.length - 1 - i]);
        }
        return code(pushes, push(g), push(v), push(t), word(27, arguments.length));
    }

    /** Logs n, n - 1, .. 1, where argument 0 is n (500 at most), and then does the last words. */
    static int[] logging(int... last) {
        return code(push(0), ARGUMENT,
                copy(0), IS_ZERO, jumpIf(10),
                copy(0), LOG, push(1), SUBTRACT, jump(2), last);
    }

    /** A new account with this code, sealed. */
    static int account(CallLedger x, int balance, Object... parts) {
        int number = x.open(balance);
        for (int word : code(parts)) {
            x.code(number, word);
        }
        due("seal of a good code", x.seal(number), NONE);
        return number;
    }

    /** Runs a code once as account 1 of a new ledger; 0 has 100, 1 has 50, and no amount goes. */
    static void runs(String name, int[] words, int gas, int ending, int result, int used) {
        CallLedger x = new CallLedger();
        account(x, 100);
        int runner = account(x, 50, words);
        due(name + ": transact", x.transact(0, runner, 0, gas), ending);
        due(name + ": result", x.result(), result);
        due(name + ": used", x.used(), used);
    }

    /** The result of a code that must end well, with all gas there is. */
    static void gives(String name, int result, Object... parts) {
        CallLedger x = new CallLedger();
        account(x, 100);
        int runner = account(x, 50, parts);
        due(name + ": transact", x.transact(0, runner, 0, 10000), 0);
        due(name, x.result(), result);
    }

    static int write(CallLedger x, int account, int key, int number, int gas) {
        x.argument(key);
        x.argument(number);
        return x.transact(account, account, 0, gas);
    }

    /** A ledger with so many keys: 150 of account 0 from 0 down, 150 of 1 from 1000 down, and so on. */
    static CallLedger filledTo(int keys) {
        CallLedger x = new CallLedger();
        account(x, 0, FILLER);
        account(x, 0, FILLER);
        int left = keys;
        for (int i = 0; left > 0; i++) {
            int part = Math.min(left, 150);
            due("fill", write(x, i % 2, 1000 * i, part, 10000), 0);
            left -= part;
        }
        due("filled", x.keys(), keys);
        return x;
    }

    /** All that the ledger's questions tell, of an object with a short log and few accounts. */
    static String state(CallLedger x, int... keys) {
        StringBuilder all = new StringBuilder();
        for (int account = 0; account <= 24; account++) {
            try {
                all.append(x.balance(account)).append(':');
                for (int key : keys) {
                    all.append(x.storage(account, key)).append(',');
                }
            } catch (IndexOutOfBoundsException thrown) {
                break;
            }
            all.append(' ');
        }
        all.append("supply ").append(x.supply()).append(" keys ").append(x.keys());
        all.append(" log");
        int logged = x.logged();
        for (int i = 0; i < logged; i++) {
            all.append(' ').append(x.log(i));
        }
        return all.append(" used ").append(x.used()).append(" result ").append(x.result()).toString();
    }
}
