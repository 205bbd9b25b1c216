/** Counts the calls whose answer is not the one that is due, and makes words and codes. */
final class Check {
    interface Call {
        long answer();
    }

    private static int wrong = 0;

    private Check() {
    }

    static void due(String call, long got, long want) {
        if (got != want) {
            wrong++;
            System.out.println(call + " answered " + got + ", due is " + want);
        }
    }

    static void dueThrow(String call, Class<? extends RuntimeException> want, Call made) {
        String got;
        try {
            got = "answered " + made.answer();
        } catch (RuntimeException thrown) {
            if (thrown.getClass() == want) {
                return;
            }
            got = "threw " + thrown.getClass().getSimpleName();
        }
        wrong++;
        System.out.println(call + " " + got + ", due is a throw of " + want.getSimpleName());
    }

    static void finish() {
        System.out.println(wrong == 0 ? "all answers are as due" : wrong + " answers are not as due");
        if (wrong != 0) {
            System.exit(1);
        }
    }

    static int word(int instruction, int n) {
        return (n << 8) | instruction;
    }

    static int push(int n) {
        return word(1, n);
    }

    static int[] join(int[]... parts) {
        int length = 0;
        for (int[] part : parts) {
            length += part.length;
        }
        int[] all = new int[length];
        int at = 0;
        for (int[] part : parts) {
            System.arraycopy(part, 0, all, at, part.length);
            at += part.length;
        }
        return all;
    }

    static int[] row(int... words) {
        return words;
    }

    static int[] times(int count, int... words) {
        int[] all = new int[count * words.length];
        for (int i = 0; i < all.length; i++) {
            all[i] = words[i % words.length];
        }
        return all;
    }

    /** Pushes the numbers, the last one to the top; each must fit into the 24 bits of n. */
    static int[] pushes(int... numbers) {
        int[] words = new int[numbers.length];
        for (int i = 0; i < numbers.length; i++) {
            words[i] = push(numbers[i]);
        }
        return words;
    }

    /** Pushes any int, in five words. */
    static int[] pushInt(int number) {
        return row(push(number >> 16), push(1 << 16), word(7, 0), push(number & 0xffff), word(14, 0));
    }

    /** A new account with this code, sealed. */
    static int account(CallLedger x, int balance, int... words) {
        int number = x.open(balance);
        for (int word : words) {
            x.code(number, word);
        }
        due("seal of a good code", x.seal(number), CallLedger.NONE);
        return number;
    }
}
