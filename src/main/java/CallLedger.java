/**
 * A ledger of accounts with balances, codes and storage. A transaction moves an amount and runs the
 * code of the account to which it goes; what a failed part of it did is undone.
 */
public final class CallLedger {
    public static final int NONE = -1;

    private static final int MOST_ACCOUNTS = 24;
    private static final int MOST_WORDS = 160;
    private static final int MOST_ON_STACK = 32;
    private static final int MOST_LOGGED = 300;
    private static final int MOST_KEYS = 500;
    private static final int MOST_ARGUMENTS = 8;
    private static final int MOST_RUNS = 8;
    private static final int MOST_GAS = 10000;
    private static final int MOST_PLACES_BELOW = 15;
    private static final int MOST_SUPPLY = 2147483647;

    private static final int END = 0;
    private static final int PUSH = 1;
    private static final int DROP = 2;
    private static final int COPY = 3;
    private static final int SWAP = 4;
    private static final int ADD = 5;
    private static final int SUBTRACT = 6;
    private static final int MULTIPLY = 7;
    private static final int DIVIDE = 8;
    private static final int REMAINDER = 9;
    private static final int IS_LESS = 10;
    private static final int IS_SAME = 11;
    private static final int IS_ZERO = 12;
    private static final int BITS_AND = 13;
    private static final int BITS_OR = 14;
    private static final int BITS_XOR = 15;
    private static final int JUMP = 16;
    private static final int JUMP_IF = 17;
    private static final int LOAD = 18;
    private static final int STORE = 19;
    private static final int ARGUMENT = 20;
    private static final int CALLER = 21;
    private static final int VALUE = 22;
    private static final int SELF = 23;
    private static final int BALANCE = 24;
    private static final int LOG = 25;
    private static final int RETURN = 26;
    private static final int CALL = 27;
    private static final int GAS = 28;
    private static final int REVERT = 29;

    // The tables have ten instructions a line. The prices of STORE and CALL hang on
    // what is on the stack, so that their 0 here is never asked for.
    private static final int[] PRICES = {
        1, 1, 1, 1, 1, 1, 1, 2, 3, 3,
        1, 1, 1, 1, 1, 1, 2, 2, 10, 0,
        1, 1, 1, 1, 5, 8, 1, 0, 1, 1
    };
    // How many numbers must be on the stack; COPY, SWAP and CALL need n more.
    private static final int[] NEEDS = {
        0, 0, 1, 1, 1, 2, 2, 2, 2, 2,
        2, 2, 1, 2, 2, 2, 0, 1, 1, 2,
        1, 0, 0, 0, 1, 1, 1, 3, 0, 1
    };

    private static final int SAME_STORE_PRICE = 5;
    private static final int STORE_PRICE = 20;
    private static final int NEW_KEY_PRICE = 20;
    private static final int CALL_PRICE = 25;
    private static final int MOVE_PRICE = 15;
    private static final int KEPT_SHARE = 8;

    // Every change of the storage costs STORE_PRICE or more, so a transaction can't pay for more.
    private static final int MOST_CHANGES = MOST_GAS / STORE_PRICE;

    private static final int GOES_ON = -1;
    private static final int WELL = 0;
    private static final int REVERTED = 1;
    private static final int NO_GAS = 2;
    private static final int STACK_TOO_SHORT = 3;
    private static final int STACK_TOO_LONG = 4;
    private static final int TOO_MANY_KEYS = 6;

    private final Codes codes;
    private final Balances balances;
    private final Store store;
    private final Row kept;
    private final Run outermost;
    private int lastUsed;
    private int lastResult;

    public CallLedger() {
        codes = new Codes();
        balances = new Balances();
        store = new Store();
        kept = new Row(MOST_LOGGED);
        Run inner = null;
        for (int i = 1; i < MOST_RUNS; i++) {
            inner = new Run(codes, balances, store, kept, inner);
        }
        outermost = new Run(codes, balances, store, kept, inner);
    }

    public int open(int balance) throws IllegalArgumentException {
        if (balance < 0) {
            throw new IllegalArgumentException("the balance is below 0");
        }
        return balances.add(balance);
    }

    public int code(int account, int word) throws IndexOutOfBoundsException, IllegalStateException {
        requireAccount(account);
        requireUnsealed(account);
        return codes.append(account, word);
    }

    public int seal(int account) throws IndexOutOfBoundsException, IllegalStateException {
        requireAccount(account);
        requireUnsealed(account);
        return codes.close(account);
    }

    public int argument(int v) {
        if (outermost.arguments.isFull()) {
            return NONE;
        }
        outermost.arguments.add(v);
        return outermost.arguments.size();
    }

    public int transact(int from, int to, int amount, int gas)
            throws IndexOutOfBoundsException, IllegalArgumentException {
        requireAccount(from);
        requireAccount(to);
        if (!balances.canMove(from, to, amount)) {
            throw new IllegalArgumentException("the account can't pay the amount");
        }
        if (gas < 0 || gas > MOST_GAS) {
            throw new IllegalArgumentException("gas is not 0 to 10000");
        }
        store.forgetChanges();
        outermost.go(from, to, amount, gas);
        outermost.arguments.cutTo(0);
        lastUsed = gas - outermost.gas;
        lastResult = outermost.answer;
        return outermost.ending;
    }

    public int used() {
        return lastUsed;
    }

    public int result() {
        return lastResult;
    }

    public int balance(int account) throws IndexOutOfBoundsException {
        requireAccount(account);
        return balances.of(account);
    }

    public int storage(int account, int key) throws IndexOutOfBoundsException {
        requireAccount(account);
        return store.read(account, key);
    }

    public int keys() {
        return store.size();
    }

    public int logged() {
        return kept.size();
    }

    public int log(int i) throws IndexOutOfBoundsException {
        if (i < 0 || i >= kept.size()) {
            throw new IndexOutOfBoundsException("the log has no such number");
        }
        return kept.at(i);
    }

    public int supply() {
        return balances.total();
    }

    private void requireAccount(int account) {
        if (!balances.has(account)) {
            throw new IndexOutOfBoundsException("there is no such account");
        }
    }

    private void requireUnsealed(int account) {
        if (codes.isSealed(account)) {
            throw new IllegalStateException("the code is sealed");
        }
    }

    /** A row of numbers up to a length; what comes to a full one is lost. */
    private static final class Row {
        private final int[] numbers;
        private int count;

        Row(int most) {
            numbers = new int[Math.max(most, 0)];
        }

        int size() {
            return count;
        }

        boolean isFull() {
            return count >= numbers.length;
        }

        void add(int number) {
            if (count < numbers.length) {
                numbers[count] = number;
                count++;
            }
        }

        int at(int i) {
            return i >= 0 && i < count ? numbers[i] : 0;
        }

        int below(int n) {
            return at(count - 1 - n);
        }

        int take() {
            if (count <= 0) {
                return 0;
            }
            count--;
            return numbers[count];
        }

        void swap(int n) {
            int top = count - 1;
            int other = top - n;
            if (other >= 0 && other < top) {
                int number = numbers[top];
                numbers[top] = numbers[other];
                numbers[other] = number;
            }
        }

        void cutTo(int shorter) {
            if (shorter >= 0 && shorter < count) {
                count = shorter;
            }
        }
    }

    /** The accounts and what each has. */
    private static final class Balances {
        private final int[] amounts = new int[MOST_ACCOUNTS];
        private int count;

        int add(int amount) {
            if (count >= MOST_ACCOUNTS || (long) total() + amount > MOST_SUPPLY) {
                return NONE;
            }
            amounts[count] = amount;
            count++;
            return count - 1;
        }

        boolean has(int account) {
            return account >= 0 && account < count;
        }

        /** -1 if there is no such account: BALANCE pushes that. */
        int of(int account) {
            return has(account) ? amounts[account] : -1;
        }

        boolean canMove(int from, int to, int amount) {
            return has(from) && has(to) && amount >= 0 && amount <= amounts[from];
        }

        void move(int from, int to, int amount) {
            if (canMove(from, to, amount)) {
                amounts[from] -= amount;
                amounts[to] += amount;
            }
        }

        int total() {
            int sum = 0;
            for (int i = 0; i < count; i++) {
                sum += amounts[i];
            }
            return sum;
        }

        void copyTo(int[] row) {
            System.arraycopy(amounts, 0, row, 0, Math.min(count, row.length));
        }

        void copyFrom(int[] row) {
            System.arraycopy(row, 0, amounts, 0, Math.min(count, row.length));
        }
    }

    /** The accounts' codes, one behind the other in one row; callers ask for accounts that exist. */
    private static final class Codes {
        private final int[] words = new int[MOST_ACCOUNTS * MOST_WORDS];
        private final int[] lengths = new int[MOST_ACCOUNTS];
        private final boolean[] sealedOnes = new boolean[MOST_ACCOUNTS];

        boolean isSealed(int account) {
            return isPlace(account, 0) && sealedOnes[account];
        }

        int append(int account, int word) {
            if (!isPlace(account, 0) || !isPlace(account, lengths[account])) {
                return NONE;
            }
            words[account * MOST_WORDS + lengths[account]] = word;
            lengths[account]++;
            return lengths[account];
        }

        int close(int account) {
            if (!isPlace(account, 0)) {
                return NONE;
            }
            int length = lengths[account];
            for (int place = 0; place < length; place++) {
                if (!isGood(wordAt(account, place), length)) {
                    lengths[account] = 0;
                    return place;
                }
            }
            sealedOnes[account] = true;
            return NONE;
        }

        /** A code that is not sealed is as if empty. */
        int lengthToRun(int account) {
            return isSealed(account) ? lengths[account] : 0;
        }

        int wordAt(int account, int place) {
            return isPlace(account, place) ? words[account * MOST_WORDS + place] : END;
        }

        private static boolean isPlace(int account, int place) {
            return account >= 0 && account < MOST_ACCOUNTS && place >= 0 && place < MOST_WORDS;
        }

        private static boolean isGood(int word, int length) {
            int instruction = instructionOf(word);
            int n = numberOf(word);
            return switch (instruction) {
                case COPY -> n >= 0 && n <= MOST_PLACES_BELOW;
                case SWAP -> n >= 1 && n <= MOST_PLACES_BELOW;
                case JUMP, JUMP_IF -> n >= 0 && n <= length;
                case CALL -> n >= 0 && n <= MOST_ARGUMENTS;
                default -> instruction < PRICES.length;
            };
        }

        static int instructionOf(int word) {
            return word & 255;
        }

        static int numberOf(int word) {
            return word >> 8;
        }
    }

    /** All accounts' storage, and what one transaction changed in it, so that it can be undone. */
    private static final class Store {
        // Only keys with other numbers than 0 are here, in ascending order of their slots.
        private final long[] slots = new long[MOST_KEYS];
        private final int[] numbers = new int[MOST_KEYS];
        private int count;
        private final long[] changedSlots = new long[MOST_CHANGES];
        private final int[] numbersBefore = new int[MOST_CHANGES];
        private int changes;

        int size() {
            return count;
        }

        boolean isFull() {
            return count >= MOST_KEYS;
        }

        int read(int account, int key) {
            long slot = slotOf(account, key);
            int place = placeOf(slot);
            return place < count && slots[place] == slot ? numbers[place] : 0;
        }

        void write(int account, int key, int number) {
            long slot = slotOf(account, key);
            int before = read(account, key);
            if (before != number && changes < MOST_CHANGES) {
                changedSlots[changes] = slot;
                numbersBefore[changes] = before;
                changes++;
                put(slot, number);
            }
        }

        int changesSoFar() {
            return changes;
        }

        void forgetChanges() {
            changes = 0;
        }

        void undoTo(int earlier) {
            for (int i = changes - 1; i >= 0 && i >= earlier; i--) {
                put(changedSlots[i], numbersBefore[i]);
                changes = i;
            }
        }

        private static long slotOf(int account, int key) {
            return ((long) account << 32) | (key & 0xffffffffL);
        }

        private void put(long slot, int number) {
            int place = placeOf(slot);
            boolean isHere = place < count && slots[place] == slot;
            if (isHere && number != 0) {
                numbers[place] = number;
            } else if (isHere) {
                count--;
                System.arraycopy(slots, place + 1, slots, place, count - place);
                System.arraycopy(numbers, place + 1, numbers, place, count - place);
            } else if (number != 0 && count < MOST_KEYS) {
                System.arraycopy(slots, place, slots, place + 1, count - place);
                System.arraycopy(numbers, place, numbers, place + 1, count - place);
                slots[place] = slot;
                numbers[place] = number;
                count++;
            }
        }

        /** How many slots are below this one; steps from 256 down to 1 reach 511, above MOST_KEYS. */
        private int placeOf(long slot) {
            int place = 0;
            for (int step = 256; step > 0; step >>= 1) {
                if (place + step <= count && slots[place + step - 1] < slot) {
                    place += step;
                }
            }
            return place;
        }
    }

    /** A run of a code. Each has the one that can run within it; the eighth has none. */
    private static final class Run {
        private final Codes codes;
        private final Balances balances;
        private final Store store;
        private final Row kept;
        private final Run inner;
        private final Row stack = new Row(MOST_ON_STACK);
        private final Row arguments = new Row(MOST_ARGUMENTS);
        private final int[] balancesBefore = new int[MOST_ACCOUNTS];
        private int changesBefore;
        private int keptBefore;
        private int account;
        private int caller;
        private int value;
        private int gas;
        private int place;
        private int ending;
        private int answer;

        Run(Codes codes, Balances balances, Store store, Row kept, Run inner) {
            this.codes = codes;
            this.balances = balances;
            this.store = store;
            this.kept = kept;
            this.inner = inner;
        }

        private void go(int from, int to, int amount, int gasGiven) {
            caller = from;
            account = to;
            value = amount;
            gas = gasGiven;
            stack.cutTo(0);
            place = 0;
            ending = GOES_ON;
            answer = 0;
            remember();
            balances.move(from, to, amount);
            // Each step but the last one pays at least 1.
            for (int paid = 0; ending == GOES_ON && paid <= MOST_GAS; paid++) {
                step();
            }
            if (ending != WELL) {
                undo();
            }
        }

        private void remember() {
            balances.copyTo(balancesBefore);
            changesBefore = store.changesSoFar();
            keptBefore = kept.size();
        }

        private void undo() {
            balances.copyFrom(balancesBefore);
            store.undoTo(changesBefore);
            kept.cutTo(keptBefore);
        }

        private void step() {
            if (place >= codes.lengthToRun(account)) {
                end(WELL, 0);
                return;
            }
            int word = codes.wordAt(account, place);
            int instruction = Codes.instructionOf(word);
            int n = Codes.numberOf(word);
            int price = priceOf(instruction);
            if (gas < price) {
                trap(NO_GAS);
                return;
            }
            gas -= price;
            if (stack.size() < needOf(instruction, n)) {
                trap(STACK_TOO_SHORT);
            } else if (stack.isFull() && pushesMoreThanItPops(instruction)) {
                trap(STACK_TOO_LONG);
            } else {
                place++;
                perform(instruction, n);
            }
        }

        private void end(int how, int number) {
            ending = how;
            answer = number;
        }

        private void trap(int which) {
            gas = 0;
            end(which, 0);
        }

        private static int entry(int[] table, int instruction) {
            return instruction >= 0 && instruction < table.length ? table[instruction] : 0;
        }

        private int needOf(int instruction, int n) {
            int fixed = entry(NEEDS, instruction);
            boolean needsMore = instruction == COPY || instruction == SWAP || instruction == CALL;
            return needsMore ? fixed + n : fixed;
        }

        private static boolean pushesMoreThanItPops(int instruction) {
            return switch (instruction) {
                case PUSH, COPY, CALLER, VALUE, SELF, GAS -> true;
                default -> false;
            };
        }

        private int priceOf(int instruction) {
            return switch (instruction) {
                case STORE -> storePrice();
                case CALL -> callPrice();
                default -> entry(PRICES, instruction);
            };
        }

        private int storePrice() {
            if (stack.size() < 2) {
                return SAME_STORE_PRICE;
            }
            int before = store.read(account, stack.below(1));
            if (before == stack.below(0)) {
                return SAME_STORE_PRICE;
            }
            return before == 0 ? STORE_PRICE + NEW_KEY_PRICE : STORE_PRICE;
        }

        private int callPrice() {
            boolean moves = stack.size() >= 2 && stack.below(1) != 0;
            return moves ? CALL_PRICE + MOVE_PRICE : CALL_PRICE;
        }

        private void perform(int instruction, int n) {
            switch (instruction) {
                case END -> end(WELL, 0);
                case PUSH -> stack.add(n);
                case DROP -> stack.take();
                case COPY -> stack.add(stack.below(n));
                case SWAP -> stack.swap(n);
                case IS_ZERO -> stack.add(stack.take() == 0 ? 1 : 0);
                case JUMP -> place = n;
                case JUMP_IF -> place = stack.take() != 0 ? n : place;
                case LOAD -> stack.add(store.read(account, stack.take()));
                case STORE -> storeNumber();
                case ARGUMENT -> stack.add(arguments.at(stack.take()));
                case CALLER -> stack.add(caller);
                case VALUE -> stack.add(value);
                case SELF -> stack.add(account);
                case BALANCE -> stack.add(balances.of(stack.take()));
                case LOG -> kept.add(stack.take());
                case RETURN -> end(WELL, stack.take());
                case CALL -> callAccount(n);
                case GAS -> stack.add(gas);
                case REVERT -> end(REVERTED, stack.take());
                default -> compute(instruction);
            }
        }

        private void compute(int instruction) {
            int b = stack.take();
            int a = stack.take();
            stack.add(computed(instruction, a, b));
        }

        private static int computed(int instruction, int a, int b) {
            return switch (instruction) {
                case ADD -> a + b;
                case SUBTRACT -> a - b;
                case MULTIPLY -> a * b;
                case DIVIDE -> b == 0 ? 0 : a / b;
                case REMAINDER -> b == 0 ? a : a % b;
                case IS_LESS -> a < b ? 1 : 0;
                case IS_SAME -> a == b ? 1 : 0;
                case BITS_AND -> a & b;
                case BITS_OR -> a | b;
                case BITS_XOR -> a ^ b;
                default -> 0;
            };
        }

        private void storeNumber() {
            int number = stack.take();
            int key = stack.take();
            if (number != 0 && store.isFull() && store.read(account, key) == 0) {
                trap(TOO_MANY_KEYS);
            } else {
                store.write(account, key, number);
            }
        }

        private void callAccount(int n) {
            int to = stack.take();
            int amount = stack.take();
            int limit = stack.take();
            if (inner == null || limit < 0 || !balances.canMove(account, to, amount)) {
                stack.cutTo(stack.size() - n);
                stack.add(0);
                stack.add(0);
                return;
            }
            inner.arguments.cutTo(0);
            for (int i = 0; i < n; i++) {
                inner.arguments.add(stack.take());
            }
            int given = Math.min(limit, gas - gas / KEPT_SHARE);
            gas -= given;
            inner.go(account, to, amount, given);
            gas += inner.gas;
            stack.add(inner.answer);
            stack.add(inner.ending == WELL ? 1 : 0);
        }
    }
}
