import java.util.ArrayDeque;
import java.util.ArrayList;
import java.util.Deque;
import java.util.HashMap;
import java.util.List;
import java.util.Map;

/** All promises: runs of made-up calls, each answer held against a plain model's. */
public final class ModelTest extends Bench {
    private static final int RUNS = 1000;
    // nothing is promised of an object behind its 512th call
    private static final int MOST_CALLS = 512;

    private static final int[] SEEN = new int[8];

    private final int run;
    private long seed;
    private int calls;
    private final CallLedger x = new CallLedger();
    private final Model m = new Model();

    private ModelTest(int run) {
        this.run = run;
        seed = run * 7919L;
    }

    public static void main(String[] args) {
        for (int run = 1; run <= RUNS; run++) {
            new ModelTest(run).play();
        }
        for (int ending : new int[] {0, 1, 2, 3, 4, 6}) {
            if (SEEN[ending] == 0) {
                due("transactions with the ending " + ending, 0, 1);
            }
        }
        finish();
    }

    private int below(int bound) {
        seed = seed * 6364136223846793005L + 1442695040888963407L;
        return (int) ((seed >>> 33) % bound);
    }

    private int pick(int... from) {
        return from[below(from.length)];
    }

    private void play() {
        int first = 3 + below(4);
        for (int i = 0; i < first; i++) {
            open(below(60));
        }
        for (int i = first; run % 7 == 0 && i < 21; i++) {
            open(1);
        }
        if (run % 5 == 0) {
            crowd();
        }
        for (int i = 0; i < first; i++) {
            writeCode(i);
        }
        int kept = 60 + below(60);
        while (calls < MOST_CALLS - kept) {
            oneCall();
        }
        compare();
    }

    /** Makes one call of the object and of the model; both must answer, or throw, the same. */
    private void same(String name, Call got, Call want) {
        if (calls < MOST_CALLS) {
            calls++;
            due("run " + run + ", call " + calls + ", " + name, told(got), told(want));
        }
    }

    private static String told(Call call) {
        try {
            return "" + call.answer();
        } catch (RuntimeException thrown) {
            return thrown.getClass().getSimpleName();
        }
    }

    private void open(int balance) {
        same("open", () -> x.open(balance), () -> m.open(balance));
    }

    private void addWord(int account, int word) {
        same("code", () -> x.code(account, word), () -> m.code(account, word));
    }

    private void seal(int account) {
        same("seal", () -> x.seal(account), () -> m.seal(account));
    }

    private void transact(int from, int to, int amount, int gas) {
        same("transact", () -> {
            int ending = x.transact(from, to, amount, gas);
            SEEN[ending]++;
            return ending;
        }, () -> m.transact(from, to, amount, gas));
    }

    /** Fills the storage nearly up, so that the trap 6 comes now and then. */
    private void crowd() {
        int[] tops = {170, 340, 498};
        int bottom = 0;
        for (int top : tops) {
            int filler = m.accounts.size();
            open(0);
            for (int word : code(push(top), copy(0), push(1), STORE, push(1), SUBTRACT, copy(0), push(bottom),
                    IS_SAME, IS_ZERO, jumpIf(1))) {
                addWord(filler, word);
            }
            seal(filler);
            transact(filler, filler, 0, 10000);
            bottom = top;
        }
    }

    private void oneCall() {
        int kind = below(40);
        if (kind < 1) {
            writeCode(below(m.accounts.size()));
        } else if (kind < 7) {
            int v = pick(0, 1, 2, 3, -1, below(1000));
            same("argument", () -> x.argument(v), () -> m.argument(v));
        } else if (kind < 28) {
            transaction();
        } else if (kind < 30) {
            open(pick(-1, 0, 5, below(100), 2147483647));
        } else if (kind < 34) {
            int i = below(m.log.size() + 3) - 1;
            same("log", () -> x.log(i), () -> m.log(i));
        } else if (kind < 36) {
            seal(below(26) - 1);
        } else {
            int account = below(26) - 1;
            int key = below(9) - 2;
            same("storage", () -> x.storage(account, key), () -> m.storage(account, key));
            same("balance", () -> x.balance(account), () -> m.balance(account));
        }
    }

    private void transaction() {
        int accounts = m.accounts.size();
        int from = below(20) == 0 ? below(26) - 1 : below(accounts);
        int to = below(20) == 0 ? below(26) - 1 : below(accounts);
        int amount = pick(0, 0, 1, 2, below(60), below(60) - 5);
        int gas = pick(below(300), below(3000), below(10001), 10000, below(40) == 0 ? 10001 : 9000);
        transact(from, to, amount, gas);
        same("used", () -> x.used(), () -> m.used);
        same("result", () -> x.result(), () -> m.result);
        same("keys", () -> x.keys(), () -> m.keys());
        same("logged", () -> x.logged(), () -> m.log.size());
        same("supply", () -> x.supply(), () -> m.supply());
        int last = m.log.size() - 1;
        same("log", () -> x.log(last), () -> m.log(last));
    }

    private void writeCode(int account) {
        int length = 1 + below(pick(6, 20, 40));
        if (run % 11 == 0 && account == 0) {
            length = 155 + below(6);
        }
        List<Integer> words = new ArrayList<>();
        if (below(8) == 0) {
            // a stack that is nearly full
            for (int i = below(6); i < 32; i++) {
                words.add(push(i));
            }
        }
        while (words.size() < length) {
            addWords(words, length, m.accounts.size());
        }
        for (int word : words) {
            addWord(account, word);
        }
        if (below(5) != 0) {
            seal(account);
        }
    }

    private void addWords(List<Integer> words, int length, int accounts) {
        int kind = below(24);
        if (kind < 5) {
            words.add(push(below(12) - 2));
        } else if (kind < 8) {
            words.add(push(below(8)));
            words.add(push(pick(0, 1, 2, below(50))));
            words.add(19);
        } else if (kind < 13) {
            int arguments = below(30) == 0 ? below(9) : below(3);
            for (int i = 0; i < arguments; i++) {
                words.add(push(below(5)));
            }
            words.add(push(pick(below(100), below(1000), 9999, below(20) == 0 ? -1 : 5000)));
            words.add(push(pick(0, 0, 1, 2, below(20) - 2)));
            words.add(below(4) == 0 ? 23 : push(below(accounts + 1)));
            words.add(word(27, arguments));
            words.add(25);
            tellTop(words);
        } else if (kind < 14) {
            words.add(word(pick(16, 17), below(length + 1)));
        } else if (kind < 16) {
            words.add(pick(21, 22, 23, 28));
            words.add(25);
        } else if (kind < 17) {
            words.add(copy(below(12) == 0 ? below(17) : below(4)));
        } else if (kind < 18) {
            words.add(swap(below(12) == 0 ? below(17) : 1 + below(3)));
        } else if (kind < 19) {
            words.add(push(below(300) - 100));
            words.add(below(4) == 0 ? pick(0, 26, 29, 29) : pick(21, 22, 28));
        } else if (kind < 20) {
            words.add(push(below(9) - 2));
            words.add(below(60) == 0 ? below(256) : pick(18, 20, 20, 24));
            tellTop(words);
        } else {
            words.add(pick(push(below(20) - 5), push(below(1 << 24) - (1 << 23)), 28, copy(below(3))));
            words.add(pick(push(below(20) - 5), push(below(9) - 4), 22, 28, 2));
            words.add(pick(5, 6, 7, 8, 9, 10, 11, 12, 13, 14, 15));
            tellTop(words);
        }
    }

    /** What was computed comes to the log, the storage or the result now and then, so that it is seen. */
    private void tellTop(List<Integer> words) {
        int kind = below(8);
        if (kind < 4) {
            words.add(25);
        } else if (kind < 6) {
            words.add(push(below(8)));
            words.add(swap(1));
            words.add(19);
        } else if (kind < 7) {
            words.add(below(4) == 0 ? pick(26, 29) : copy(0));
        }
    }

    /** What is left of the calls goes to the log, the balances and the storage, from anywhere on. */
    private void compare() {
        for (int account = 0; account < m.accounts.size(); account++) {
            int asked = account;
            same("balance", () -> x.balance(asked), () -> m.balance(asked));
        }
        while (calls < MOST_CALLS) {
            int account = below(m.accounts.size());
            int key = below(4) == 0 ? below(510) - 5 : below(13) - 4;
            same("storage", () -> x.storage(account, key), () -> m.storage(account, key));
            int i = below(m.log.size() + 1);
            same("log", () -> x.log(i), () -> m.log(i));
        }
    }

    private static final class Account {
        private int balance;
        private final List<Integer> code = new ArrayList<>();
        private boolean sealed;
        private Map<Integer, Integer> storage = new HashMap<>();
    }

    /** Where a run stopped: how, with which result, and with how much gas. */
    private record Stop(int how, int result, int gas) {
    }

    /** The document written down plainly: each run copies all, and takes the copy back if it fails. */
    private static final class Model {
        private final List<Account> accounts = new ArrayList<>();
        private List<Integer> log = new ArrayList<>();
        private List<Integer> arguments = new ArrayList<>();
        private int used;
        private int result;

        private void require(int account) {
            if (account < 0 || account >= accounts.size()) {
                throw new IndexOutOfBoundsException();
            }
        }

        int open(int balance) {
            if (balance < 0) {
                throw new IllegalArgumentException();
            }
            if (accounts.size() == 24 || supply() + balance > 2147483647L) {
                return -1;
            }
            Account account = new Account();
            account.balance = balance;
            accounts.add(account);
            return accounts.size() - 1;
        }

        int code(int account, int word) {
            require(account);
            Account a = accounts.get(account);
            if (a.sealed) {
                throw new IllegalStateException();
            }
            if (a.code.size() == 160) {
                return -1;
            }
            a.code.add(word);
            return a.code.size();
        }

        int seal(int account) {
            require(account);
            Account a = accounts.get(account);
            if (a.sealed) {
                throw new IllegalStateException();
            }
            for (int i = 0; i < a.code.size(); i++) {
                int what = a.code.get(i) & 0xff;
                int n = a.code.get(i) >> 8;
                boolean bad = what > 29
                        || what == 3 && (n < 0 || n > 15)
                        || what == 4 && (n < 1 || n > 15)
                        || (what == 16 || what == 17) && (n < 0 || n > a.code.size())
                        || what == 27 && (n < 0 || n > 8);
                if (bad) {
                    a.code.clear();
                    return i;
                }
            }
            a.sealed = true;
            return -1;
        }

        int argument(int v) {
            if (arguments.size() == 8) {
                return -1;
            }
            arguments.add(v);
            return arguments.size();
        }

        int balance(int account) {
            require(account);
            return accounts.get(account).balance;
        }

        int storage(int account, int key) {
            require(account);
            return accounts.get(account).storage.getOrDefault(key, 0);
        }

        int log(int i) {
            if (i < 0 || i >= log.size()) {
                throw new IndexOutOfBoundsException();
            }
            return log.get(i);
        }

        long supply() {
            long sum = 0;
            for (Account a : accounts) {
                sum += a.balance;
            }
            return sum;
        }

        int keys() {
            int count = 0;
            for (Account a : accounts) {
                for (int number : a.storage.values()) {
                    count += number != 0 ? 1 : 0;
                }
            }
            return count;
        }

        int transact(int from, int to, int amount, int gas) {
            require(from);
            require(to);
            if (amount < 0 || amount > accounts.get(from).balance || gas < 0 || gas > 10000) {
                throw new IllegalArgumentException();
            }
            Stop stop = guarded(from, to, amount, gas, arguments, 1);
            arguments = new ArrayList<>();
            used = gas - stop.gas;
            result = stop.result;
            return stop.how;
        }

        private Stop guarded(int from, int to, int amount, int gas, List<Integer> args, int depth) {
            List<Integer> balances = new ArrayList<>();
            List<Map<Integer, Integer>> storages = new ArrayList<>();
            for (Account a : accounts) {
                balances.add(a.balance);
                storages.add(new HashMap<>(a.storage));
            }
            List<Integer> logBefore = new ArrayList<>(log);
            accounts.get(from).balance -= amount;
            accounts.get(to).balance += amount;
            Stop stop = new Machine(this, from, to, amount, gas, args, depth).run();
            if (stop.how != 0) {
                for (int i = 0; i < accounts.size(); i++) {
                    accounts.get(i).balance = balances.get(i);
                    accounts.get(i).storage = storages.get(i);
                }
                log = logBefore;
            }
            return stop;
        }
    }

    private static final class Machine {
        private final Model m;
        private final int caller;
        private final int self;
        private final int value;
        private int gas;
        private final List<Integer> args;
        private final int depth;
        private final Deque<Integer> stack = new ArrayDeque<>();

        Machine(Model m, int caller, int self, int value, int gas, List<Integer> args, int depth) {
            this.m = m;
            this.caller = caller;
            this.self = self;
            this.value = value;
            this.gas = gas;
            this.args = args;
            this.depth = depth;
        }

        private int nth(int n) {
            return new ArrayList<>(stack).get(n);
        }

        private int price(int what) {
            if (what == 27) {
                return stack.size() >= 2 && nth(1) != 0 ? 40 : 25;
            }
            if (what == 19) {
                if (stack.size() < 2) {
                    return 5;
                }
                int had = m.storage(self, nth(1));
                return had == nth(0) ? 5 : had == 0 ? 40 : 20;
            }
            return switch (what) {
                case 7, 16, 17 -> 2;
                case 8, 9 -> 3;
                case 24 -> 5;
                case 25 -> 8;
                case 18 -> 10;
                default -> 1;
            };
        }

        private int pops(int what, int n) {
            return switch (what) {
                case 0, 1, 16, 21, 22, 23, 28 -> 0;
                case 2, 12, 17, 18, 20, 24, 25, 26, 29 -> 1;
                case 3, 4 -> n + 1;
                case 27 -> n + 3;
                default -> 2;
            };
        }

        private int pushes(int what, int n) {
            return switch (what) {
                case 0, 2, 16, 17, 19, 25, 26, 29 -> 0;
                case 3 -> n + 2;
                case 4 -> n + 1;
                case 27 -> 2;
                default -> 1;
            };
        }

        Stop run() {
            List<Integer> code = m.accounts.get(self).sealed ? m.accounts.get(self).code : List.of();
            int place = 0;
            while (place != code.size()) {
                int what = code.get(place) & 0xff;
                int n = code.get(place) >> 8;
                int price = price(what);
                if (gas < price) {
                    return new Stop(2, 0, 0);
                }
                gas -= price;
                if (stack.size() < pops(what, n)) {
                    return new Stop(3, 0, 0);
                }
                if (stack.size() - pops(what, n) + pushes(what, n) > 32) {
                    return new Stop(4, 0, 0);
                }
                place++;
                if (what == 0) {
                    return new Stop(0, 0, gas);
                } else if (what == 26 || what == 29) {
                    return new Stop(what == 26 ? 0 : 1, stack.pop(), gas);
                } else if (what == 16) {
                    place = n;
                } else if (what == 17) {
                    place = stack.pop() != 0 ? n : place;
                } else if (what == 19) {
                    int number = stack.pop();
                    int key = stack.pop();
                    if (number != 0 && m.storage(self, key) == 0 && m.keys() == 500) {
                        return new Stop(6, 0, 0);
                    }
                    m.accounts.get(self).storage.put(key, number);
                } else {
                    simple(what, n);
                }
            }
            return new Stop(0, 0, gas);
        }

        private void simple(int what, int n) {
            switch (what) {
                case 1 -> stack.push(n);
                case 2 -> stack.pop();
                case 3 -> stack.push(nth(n));
                case 4 -> swap(n);
                case 12 -> stack.push(stack.pop() == 0 ? 1 : 0);
                case 18 -> stack.push(m.storage(self, stack.pop()));
                case 20 -> {
                    int i = stack.pop();
                    stack.push(i < 0 || i >= args.size() ? 0 : args.get(i));
                }
                case 21 -> stack.push(caller);
                case 22 -> stack.push(value);
                case 23 -> stack.push(self);
                case 24 -> {
                    int i = stack.pop();
                    stack.push(i < 0 || i >= m.accounts.size() ? -1 : m.accounts.get(i).balance);
                }
                case 25 -> {
                    int number = stack.pop();
                    if (m.log.size() < 300) {
                        m.log.add(number);
                    }
                }
                case 27 -> call(n);
                case 28 -> stack.push(gas);
                default -> {
                    long b = stack.pop();
                    long a = stack.pop();
                    stack.push((int) computed(what, a, b));
                }
            }
        }

        private void swap(int n) {
            List<Integer> all = new ArrayList<>(stack);
            int top = all.get(0);
            all.set(0, all.get(n));
            all.set(n, top);
            stack.clear();
            stack.addAll(all);
        }

        private long computed(int what, long a, long b) {
            return switch (what) {
                case 5 -> a + b;
                case 6 -> a - b;
                case 7 -> a * b;
                case 8 -> b == 0 ? 0 : a / b;
                case 9 -> b == 0 ? a : a - b * (a / b);
                case 10 -> a < b ? 1 : 0;
                case 11 -> a == b ? 1 : 0;
                case 13 -> a & b;
                case 14 -> a | b;
                default -> a ^ b;
            };
        }

        private void call(int n) {
            int t = stack.pop();
            int v = stack.pop();
            int g = stack.pop();
            List<Integer> given = new ArrayList<>();
            for (int i = 0; i < n; i++) {
                given.add(stack.pop());
            }
            if (t < 0 || t >= m.accounts.size() || v < 0 || v > m.accounts.get(self).balance || g < 0
                    || depth == 8) {
                stack.push(0);
                stack.push(0);
                return;
            }
            int part = Math.min(g, gas - gas / 8);
            gas -= part;
            Stop stop = m.guarded(self, t, v, part, given, depth + 1);
            gas += stop.gas;
            stack.push(stop.result);
            stack.push(stop.how == 0 ? 1 : 0);
        }
    }
}
