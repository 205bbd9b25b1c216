/** The log: promises 12 and 13, and the instruction 25. */
public final class LogTest extends Bench {
    public static void main(String[] args) {
        emptyAtFirst();
        noSuchNumber();
        numbersInOrder();
        upTo300();
        moreThan300InOneTransaction();
        priceOfWhatIsLost();
        aFullLogStays();
        roomAgainWhenUndone();
        roomAgainWithinOneTransaction();
        finish();
    }

    private static int logs(CallLedger x, int account, int count) {
        x.argument(count);
        return x.transact(account, account, 0, 10000);
    }

    private static void emptyAtFirst() {
        sentence("No accounts, an empty log");
        CallLedger x = new CallLedger();
        due("logged()", x.logged(), 0);
        for (int i : new int[] {MIN, -1, 0, 1, 299, 300, MAX}) {
            outOfBounds("log(" + i + ")", () -> x.log(i));
        }
    }

    private static void noSuchNumber() {
        sentence("Number i of the log. IndexOutOfBoundsException: there is none");
        CallLedger x = new CallLedger();
        account(x, 0, logging());
        due("three numbers", logs(x, 0, 3), 0);
        for (int i : new int[] {MIN, -2, -1, 3, 4, 299, 300, MAX}) {
            outOfBounds("log(" + i + ")", () -> x.log(i));
        }
        due("log(0)", x.log(0), 3);
        due("log(1)", x.log(1), 2);
        due("log(2)", x.log(2), 1);
        due("logged()", x.logged(), 3);
    }

    private static void numbersInOrder() {
        sentence("one is popped and comes to the log");
        CallLedger x = new CallLedger();
        int echo = account(x, 0, push(0), ARGUMENT, LOG);
        int[] numbers = {5, MIN, MAX, 0, -1};
        for (int i = 0; i < numbers.length; i++) {
            due("transact", logs(x, echo, numbers[i]), 0);
            due("its price", x.used(), 10);
            due("logged()", x.logged(), i + 1);
        }
        for (int i = 0; i < numbers.length; i++) {
            due("log(" + i + ")", x.log(i), numbers[i]);
        }
    }

    private static void upTo300() {
        sentence("the first 300 are kept, others are lost");
        CallLedger x = new CallLedger();
        account(x, 0, logging());
        due("299 numbers", logs(x, 0, 299), 0);
        due("logged()", x.logged(), 299);
        outOfBounds("log(299)", () -> x.log(299));
        int echo = account(x, 0, push(0), ARGUMENT, LOG);
        due("the 300th", logs(x, echo, 77), 0);
        due("logged()", x.logged(), 300);
        due("log(299)", x.log(299), 77);
        due("the 301st", logs(x, echo, 88), 0);
        due("logged()", x.logged(), 300);
        due("log(299)", x.log(299), 77);
        outOfBounds("log(300)", () -> x.log(300));
        for (int i = 0; i < 299; i++) {
            due("log(" + i + ")", x.log(i), 299 - i);
        }
    }

    private static void moreThan300InOneTransaction() {
        sentence("the first 300 are kept, others are lost");
        CallLedger x = new CallLedger();
        account(x, 0, logging(push(6), RETURN));
        due("301 numbers", logs(x, 0, 301), 0);
        due("it goes on behind the lost one", x.result(), 6);
        due("logged()", x.logged(), 300);
        due("log(0)", x.log(0), 301);
        due("log(299)", x.log(299), 2);
        outOfBounds("log(300)", () -> x.log(300));
        CallLedger y = new CallLedger();
        account(y, 0, logging());
        due("500 numbers", logs(y, 0, 500), 0);
        due("logged()", y.logged(), 300);
        due("log(0)", y.log(0), 500);
        due("log(299)", y.log(299), 201);
    }

    private static void priceOfWhatIsLost() {
        sentence("Price 8: 25 one is popped and comes to the log");
        CallLedger x = new CallLedger();
        account(x, 0, logging());
        int two = account(x, 0, push(5), push(9), LOG, RETURN);
        due("transact", x.transact(0, two, 0, 11), 0);
        due("when there is room", x.used(), 11);
        logs(x, 0, 300);
        due("transact", x.transact(0, two, 0, 11), 0);
        due("when there is none", x.used(), 11);
        due("it is popped", x.result(), 5);
        due("1 too little when there is none", x.transact(0, two, 0, 9), 2);
    }

    private static void aFullLogStays() {
        sentence("all that it and the runs within it did (balances, storage, log, v, too) is undone");
        CallLedger x = new CallLedger();
        account(x, 0, logging());
        int back = account(x, 0, logging(push(1), REVERT));
        logs(x, 0, 300);
        due("20 are lost, then it reverts", logs(x, back, 20), 1);
        due("logged()", x.logged(), 300);
        due("log(0)", x.log(0), 300);
        due("log(280)", x.log(280), 20);
        due("log(299)", x.log(299), 1);
    }

    private static void roomAgainWhenUndone() {
        sentence("all that it and the runs within it did (balances, storage, log, v, too) is undone");
        CallLedger x = new CallLedger();
        account(x, 0, logging());
        int back = account(x, 0, logging(push(1), REVERT));
        logs(x, 0, 290);
        due("15 come, 5 of them are lost, and it reverts", logs(x, back, 15), 1);
        due("logged()", x.logged(), 290);
        outOfBounds("log(290)", () -> x.log(290));
        due("log(289)", x.log(289), 1);
        due("room for 10 again", logs(x, 0, 11), 0);
        due("logged()", x.logged(), 300);
        due("log(290)", x.log(290), 11);
        due("log(299)", x.log(299), 2);
    }

    private static void roomAgainWithinOneTransaction() {
        sentence("all that it and the runs within it did (balances, storage, log, v, too) is undone");
        CallLedger x = new CallLedger();
        account(x, 0, logging());
        int back = account(x, 0, logging(push(1), REVERT));
        int outer = account(x, 0, push(55), LOG, call(back, 0, 5000, 20), LOG, LOG, push(66), LOG, push(77), LOG);
        logs(x, 0, 295);
        due("transact", x.transact(0, outer, 0, 10000), 0);
        due("logged()", x.logged(), 300);
        int[] last = {55, 0, 1, 66, 77};
        for (int i = 0; i < 5; i++) {
            due("log(" + (295 + i) + ")", x.log(295 + i), last[i]);
        }
    }
}
