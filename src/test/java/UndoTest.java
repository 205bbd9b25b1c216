/** What a run that ended REVERTED or with a trap did is undone, and nothing else. */
public final class UndoTest extends Bench {
    public static void main(String[] args) {
        everyEndingUndoes();
        fullStorageUndoes();
        runsWithinAreUndone();
        onlyTheFailedPart();
        runsFromADepthOnUndone();
        amountUndone();
        numbersComeBack();
        storageOfTheCallerChangedWithin();
        keysLeaveRoomAgain();
        keysTakeTheirRoomAgain();
        manyChangesUndone();
        earlierTransactionsStay();
        gasIsNotUndone();
        finish();
    }

    private static final String UNDONE =
            "all that it and the runs within it did (balances, storage, log, v, too) is undone";

    /** Stores 5 for the key 1, logs 3, sends 2 to account 0, and then does the last words, from 11 on. */
    private static int[] doesMuch(int... last) {
        return code(push(1), push(5), STORE, push(3), LOG, call(0, 2, 0), DROP, DROP, last);
    }

    /** Logs 8, calls with 4, logs both numbers that were pushed, stores 6 for the key 2, logs 9. */
    private static int[] callsIt(int inner) {
        return code(push(8), LOG, call(inner, 4, 500), LOG, LOG, push(2), push(6), STORE, push(9), LOG);
    }

    private static void everyEndingUndoes() {
        sentence(UNDONE);
        int[][] lasts = {{push(7), REVERT}, {jump(11)}, {DROP}, {push(1), jump(11)}};
        for (int i = 0; i < lasts.length; i++) {
            CallLedger x = new CallLedger();
            x.open(10);
            int inner = account(x, 6, doesMuch(lasts[i]));
            int outer = account(x, 20, callsIt(inner));
            due("transact", x.transact(0, outer, 1, 2000), 0);
            due("the ending " + (i + 1), state(x, 1, 2), "9:0,0, 6:0,0, 21:0,6, supply 36 keys 1 log 8 0 "
                    + (i == 0 ? 7 : 0) + " 9 used " + x.used() + " result 0");
        }
        CallLedger x = new CallLedger();
        x.open(10);
        int inner = account(x, 6, doesMuch(push(7), RETURN));
        int outer = account(x, 20, callsIt(inner));
        due("transact", x.transact(0, outer, 1, 2000), 0);
        due("the ending 0", state(x, 1, 2),
                "11:0,0, 8:5,0, 17:0,6, supply 36 keys 2 log 8 3 1 7 9 used " + x.used() + " result 0");
    }

    private static void fullStorageUndoes() {
        sentence(UNDONE);
        CallLedger x = filledTo(499);
        int payer = account(x, 10);
        int inner = account(x, 6, push(1), push(5), STORE, push(3), LOG, call(payer, 2, 0), push(2), push(5), STORE);
        int outer = account(x, 20, push(8), LOG, call(inner, 4, 500), LOG, LOG, GAS, RETURN);
        due("transact", x.transact(payer, outer, 1, 2000), 0);
        due("all of the 500 are gone", x.result(), 2000 - 9 - 43 - 500 - 16 - 1);
        due("balances", x.balance(payer) + 100 * x.balance(inner) + 10000 * x.balance(outer), 210609);
        due("the 500th key", x.storage(inner, 1), 0);
        due("keys()", x.keys(), 499);
        due("logged()", x.logged(), 3);
        due("log(0)", x.log(0), 8);
        due("how the call ended", x.log(1), 0);
        due("its result", x.log(2), 0);
    }

    private static void runsWithinAreUndone() {
        sentence(UNDONE);
        int[][] lasts = {{push(4), REVERT}, {jump(6)}, {DROP, DROP, DROP}, {push(1), jump(6)}};
        for (int[] last : lasts) {
            CallLedger x = new CallLedger();
            x.open(10);
            int innermost = account(x, 6, doesMuch());
            int middle = account(x, 6, call(innermost, 3, 900), LOG, DROP, last);
            int outer = account(x, 6, call(middle, 3, 2000), BOTH);
            due("transact", x.transact(0, outer, 0, 5000), 0);
            int result = last[0] == push(4) ? 40 : 0;
            due("the innermost ended well, the middle one did not", state(x, 1),
                    "10:0, 6:0, 6:0, 6:0, supply 28 keys 0 log used " + x.used() + " result " + result);
        }
    }

    private static void onlyTheFailedPart() {
        sentence(UNDONE);
        CallLedger x = new CallLedger();
        x.open(10);
        int keep = account(x, 0, WRITER);
        int lose = account(x, 0, call(keep, 0, 900, 1, 50), call(keep, 0, 900, 2, 60), call(keep, 0, 900, 3, 0),
                call(keep, 0, 900, 1, 51), REVERT);
        int outer = account(x, 0, call(keep, 0, 900, 1, 40), call(keep, 0, 900, 3, 30), call(lose, 0, 5000),
                call(keep, 0, 900, 4, 70));
        due("transact", x.transact(0, outer, 0, 10000), 0);
        due("for 1 to 4", state(x, 1, 2, 3, 4), "10:0,0,0,0, 0:40,0,30,70, 0:0,0,0,0, 0:0,0,0,0, "
                + "supply 10 keys 3 log used " + x.used() + " result 0");
    }

    /** Each run stores its depth and calls the next; the run at a depth fails, or none at 9. */
    private static void runsFromADepthOnUndone() {
        sentence(UNDONE);
        for (int failing = 1; failing <= 9; failing++) {
            CallLedger x = new CallLedger();
            account(x, 0, push(0), ARGUMENT, push(1), ADD, copy(0), copy(0), STORE, copy(0), LOG,
                    copy(0), push(9000), push(0), SELF, word(27, 1), DROP, DROP, push(failing), IS_SAME, jumpIf(20),
                    END, push(3), REVERT);
            due("transact", x.transact(0, 0, 0, 10000), failing == 1 ? 1 : 0);
            due("logged()", x.logged(), failing - 1);
            due("keys()", x.keys(), failing - 1);
            for (int depth = 1; depth <= 8; depth++) {
                due("failing at " + failing + ", stored at " + depth, x.storage(0, depth),
                        depth < failing ? depth : 0);
            }
        }
    }

    private static void amountUndone() {
        sentence(UNDONE);
        CallLedger x = new CallLedger();
        account(x, 0, push(1), REVERT);
        account(x, 0, call(0, 5, 100), SELF, BALANCE, RETURN);
        int outer = account(x, 9, call(1, 9, 500), DROP, RETURN);
        due("transact", x.transact(outer, outer, 0, 1000), 0);
        due("the middle one has all 9 again", x.result(), 9);
        due("balances", state(x), "0: 9: 0: supply 9 keys 0 log used " + x.used() + " result 9");
        due("an amount to one that reverts", x.transact(1, 0, 9, 100), 1);
        due("it came back", x.balance(1), 9);
        amountSentBack();
        int self = account(x, 7, push(0), ARGUMENT, jumpIf(11), push(1), push(99), push(7), SELF, word(27, 1),
                SELF, BALANCE, RETURN, push(5), REVERT);
        due("transact", x.transact(0, self, 0, 1000), 0);
        due("an amount to itself, as it sees it then", x.result(), 7);
        due("an amount to itself that came back", x.balance(self), 7);
    }

    private static void amountSentBack() {
        CallLedger x = new CallLedger();
        account(x, 3, push(50), push(5), CALLER, word(27, 0), CALLER, BALANCE, REVERT);
        int caller = account(x, 9, VALUE, jumpIf(8), call(0, 6, 500), DROP, RETURN);
        due("transact", x.transact(0, caller, 0, 1000), 0);
        due("it was sent back, and that is undone too", state(x),
                "3: 9: supply 12 keys 0 log used " + x.used() + " result 8");
        due("of one that reverts, to itself", x.transact(0, 0, 3, 1000), 1);
        due("it has what it had", x.balance(0), 3);
    }

    private static void numbersComeBack() {
        sentence(UNDONE);
        CallLedger x = new CallLedger();
        account(x, 0, WRITER);
        write(x, 0, 1, 11, 100);
        write(x, 0, 2, 22, 100);
        int back = account(x, 0, call(0, 0, 100, 1, 0), call(0, 0, 100, 1, 5), call(0, 0, 100, 1, 6),
                call(0, 0, 100, 2, 7), call(0, 0, 100, 2, 0), call(0, 0, 100, 3, 8), call(0, 0, 100, 3, 0),
                call(0, 0, 100, 4, 9), REVERT);
        due("transact", x.transact(0, back, 0, 5000), 1);
        due("for 1 to 4", state(x, 1, 2, 3, 4),
                "0:11,22,0,0, 0:0,0,0,0, supply 0 keys 2 log used " + x.used() + " result 1");
    }

    private static void storageOfTheCallerChangedWithin() {
        sentence(UNDONE);
        CallLedger x = new CallLedger();
        // stores 5; calls itself, which stores 6 and ends as the caller's argument 0 tells; loads
        account(x, 0, push(0), ARGUMENT, push(2), IS_LESS, jumpIf(16),
                push(1), push(6), STORE,
                push(0), ARGUMENT, push(2), IS_SAME, jumpIf(15), push(9), REVERT, END,
                push(1), push(5), STORE,
                push(0), ARGUMENT, push(2), ADD, push(500), push(0), SELF, word(27, 1),
                push(1), LOAD, RETURN);
        due("transact", x.transact(0, 0, 0, 2000), 0);
        due("within, it ended well", x.result(), 6);
        x.argument(1);
        due("transact", x.transact(0, 0, 0, 2000), 0);
        due("within, it did not", x.result(), 5);
    }

    private static void keysLeaveRoomAgain() {
        sentence(UNDONE);
        CallLedger x = filledTo(499);
        int back = account(x, 0, push(1), push(5), STORE, push(9), REVERT);
        int outer = account(x, 0, call(back, 0, 100), push(2), push(6), STORE, RETURN);
        due("the 500th key is undone, and comes from another", x.transact(0, outer, 0, 500), 0);
        due("keys()", x.keys(), 500);
        due("the one", x.storage(back, 1), 0);
        due("the other", x.storage(outer, 2), 6);
    }

    private static void keysTakeTheirRoomAgain() {
        sentence(UNDONE);
        CallLedger x = filledTo(499);
        account(x, 0, WRITER);
        due("the 500th", write(x, 2, 1, 1, 100), 0);
        int back = account(x, 0, call(2, 0, 100, 1, 0), REVERT);
        int outer = account(x, 0, call(back, 0, 200), push(2), push(6), STORE);
        due("a key that goes is undone, so there is no room", x.transact(0, outer, 0, 1000), 6);
        due("keys()", x.keys(), 500);
        due("the 500th", x.storage(2, 1), 1);
        int keeps = account(x, 0, call(2, 0, 100, 1, 0), push(2), push(6), STORE);
        due("a key that goes leaves room", x.transact(0, keeps, 0, 1000), 0);
        due("keys()", x.keys(), 500);
        due("the 500th went", x.storage(2, 1), 0);
    }

    /** As many changes as all gas can pay for, and the storage as before. */
    private static void manyChangesUndone() {
        sentence("but for 0 all is as before then");
        CallLedger x = new CallLedger();
        account(x, 0, push(1), push(7), STORE, push(2), push(8), STORE);
        due("transact", x.transact(0, 0, 0, 100), 0);
        int[] changes = {};
        for (int i = 0; i < 26; i++) {
            changes = code(changes, push(1), push(100 + i), STORE, push(2), push(200 + i), STORE);
        }
        int many = account(x, 0, changes, jump(0));
        due("some 450 changes, and no gas then", x.transact(0, many, 0, 10000), 2);
        due("for 1 and 2", state(x, 1, 2), "0:7,8, 0:0,0, supply 0 keys 2 log used 10000 result 0");
        int inner = account(x, 0, call(many, 0, MOST_N), BOTH);
        due("transact", x.transact(0, inner, 0, 10000), 0);
        due("for 1 and 2 of one within", state(x, 1, 2),
                "0:7,8, 0:0,0, 0:0,0, supply 0 keys 2 log used " + x.used() + " result 0");
    }

    private static void earlierTransactionsStay() {
        sentence("but for 0 all is as before then");
        CallLedger x = new CallLedger();
        x.open(10);
        int writer = account(x, 0, WRITER, push(4), LOG, push(2), ARGUMENT, jumpIf(11), END, push(5), REVERT);
        write(x, writer, 1, 11, 200);
        due("one that ends well", x.transact(0, writer, 3, 200), 0);
        x.argument(1);
        x.argument(12);
        x.argument(1);
        due("one that reverts", x.transact(0, writer, 3, 200), 1);
        due("the earlier ones' work", state(x, 0, 1),
                "7:0,0, 3:0,11, supply 10 keys 1 log 4 4 used " + x.used() + " result 5");
    }

    private static void gasIsNotUndone() {
        sentence("its gas comes back, 0 with a trap");
        CallLedger x = new CallLedger();
        int back = account(x, 0, push(1), push(5), STORE, push(9), REVERT);
        int outer = account(x, 0, call(back, 0, 100), GAS, RETURN);
        due("transact", x.transact(0, outer, 0, 1000), 0);
        due("what the reverted one needed is gone", x.result(), 1000 - 28 - 44 - 1);
        due("used()", x.used(), 28 + 44 + 2);
        due("a transaction that reverts", x.transact(0, back, 0, 1000), 1);
        due("used()", x.used(), 44);
    }
}
