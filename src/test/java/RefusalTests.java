/**
 * Each call that is refused: which exception it throws, that it changes nothing, and that the call just on the other
 * side of the boundary is made. What there is to be refused stands row by row.
 */
public final class RefusalTests {
    private static final Check check = new Check();
    private static final int MIN = Integer.MIN_VALUE;
    private static final int MAX = Integer.MAX_VALUE;

    // The brokers of the hall in the midst of things.
    private static final int FIRST = 0;
    private static final int MIDDLE = 1;
    private static final int END = 2;
    private static final int RAIDED_ONE = 3;
    private static final int BROKEN_ONE = 4;
    private static final int CREDITOR = 5;
    private static final int DEBTOR = 6;
    private static final int ONE = 7;
    private static final int ANOTHER = 8;
    private static final int BROKERS = 9;

    // Its orders and couriers, by what they are.
    private static final int PAID_ORDER = 0;
    private static final int BACK_ORDER = 1;
    private static final int RAIDED_END_ORDER = 2;
    private static final int BROKEN_END_ORDER = 3;
    private static final int LOST_ORDER = 4;
    private static final int GOING_ORDER = 5;
    private static final int HERE_ORDER = 6;
    private static final int DEAR_ORDER = 7;
    private static final int WAY_ORDER = 8;
    private static final int ORDERS = 9;
    private static final int COME_COURIER = 0;
    private static final int ROBBED_COURIER = 4;
    private static final int ROAD_COURIER = 5;
    private static final int COURIERS = 6;

    private static final int LISTED = 3;

    /** An argument of a call, the others being as they should be. */
    private interface Argument {
        long on(HundiHall x, int value);
    }

    public static void main(String[] args) {
        theMidst();
        ranges();
        rangesOfMoney();
        rangesOfQuestions();
        numbers();
        numbersOfTwo();
        numbersInSettling();
        emptyHall();
        bothTheSame();
        fullHall();
        brokenWords();
        raids();
        orders();
        fetching();
        pays();
        delivers();
        couriers();
        robs();
        indexAheadOfArgument();
        indexAheadOfState();
        argumentAheadOfState();
        check.end("RefusalTests");
    }

    private static HundiHall empty() {
        return new HundiHall();
    }

    /** A hall with brokers, orders and couriers of every kind. */
    private static HundiHall midst() {
        HundiHall x = new HundiHall();
        int[] cash = {500, 300, 900, 400, 600, 1000000, 0, 0, 100};
        int[] rates = {10, 20, 5, 0, 0, 0, 0, 100, 0};
        for (int i = 0; i < BROKERS; i++) {
            x.broker(i % 8, cash[i], rates[i]);
        }
        x.trust(MIDDLE, FIRST, 5000, true);
        x.trust(END, MIDDLE, 5000, false);
        x.trust(RAIDED_ONE, MIDDLE, 5000, false);
        x.trust(BROKEN_ONE, MIDDLE, 5000, true);
        x.trust(MIDDLE, BROKEN_ONE, 5000, false);
        x.trust(ANOTHER, ONE, 1000000, true);
        x.law(0, 50);
        x.list(LISTED);
        firstHours(x);
        laterHours(x);
        return x;
    }

    private static void firstHours(HundiHall x) {
        x.courier(CREDITOR, DEBTOR, 1000000, 1);
        x.courier(END, BROKEN_ONE, 50, 1);
        x.order(FIRST, END, 100, 0, 7);
        x.order(FIRST, MIDDLE, 60, 1, 7);
        x.order(FIRST, RAIDED_ONE, 80, 2, 7);
        x.order(FIRST, BROKEN_ONE, 70, 4, 7);
        x.pass(2);
        x.fetch(PAID_ORDER, 7);
        Halls.fetchFalse(x, BACK_ORDER, 8, 3);
        x.raid(RAIDED_ONE);
        x.courier(END, RAIDED_ONE, 200, 1);
        x.pass(1);
        x.order(BROKEN_ONE, END, 40, 5, 7);
        x.breakWord(BROKEN_ONE);
    }

    private static void laterHours(HundiHall x) {
        x.order(ONE, ANOTHER, 30, 6, 7);
        x.order(FIRST, MIDDLE, 45, 7, 0);
        x.order(FIRST, END, 600, 8, 7);
        x.courier(ONE, CREDITOR, 33, 400);
        x.courier(FIRST, END, 10, 400);
        x.courier(FIRST, END, 11, 400);
        x.pass(2);
        Halls.fetchFalse(x, GOING_ORDER, 8, 3);
        x.rob(ROBBED_COURIER);
        x.order(FIRST, END, 55, 9, 9999);
    }

    /** As many brokers, orders and couriers as there can be, on roads and ways. */
    private static HundiHall full() {
        HundiHall x = new HundiHall();
        for (int i = 0; i < 12; i++) {
            x.broker(i % 8, 1000, 0);
            if (i > 0) {
                x.trust(i, i - 1, 1000000, false);
            }
        }
        for (int i = 0; i < 40; i++) {
            x.order(0, 1 + i % 11, 100, i % 20, 7);
            x.courier(i % 12, (i + 1) % 12, 10, 1 + i);
        }
        return x;
    }

    private static void theMidst() {
        check.part("the hall in the midst is as it is meant");
        HundiHall x = midst();
        int[] states = {HundiHall.PAID, HundiHall.BACK, HundiHall.HERE, HundiHall.HERE, HundiHall.LOST,
            HundiHall.GOES_BACK, HundiHall.HERE, HundiHall.HERE, HundiHall.ON_ITS_WAY};
        for (int i = 0; i < ORDERS; i++) {
            check.due("order " + i, x.orderOf(i, 0), states[i]);
        }
        for (int i = 0; i < BROKERS; i++) {
            int state = i == RAIDED_ONE ? HundiHall.RAIDED : i == BROKEN_ONE ? HundiHall.BROKEN : HundiHall.GOOD;
            check.due("broker " + i, x.brokerOf(i, 0), state);
        }
        check.dueThrow(Check.INDEX, "order " + ORDERS, () -> x.orderOf(ORDERS, 0));
        check.due("cash of the RAIDED one", x.brokerOf(RAIDED_ONE, 1), 200);
        check.due("cash of the BROKEN one", x.brokerOf(BROKEN_ONE, 1), 600 + 50 + 40);
        check.due("on the road", x.rob(ROAD_COURIER), 11);
        check.dueThrow(Check.INDEX, "courier " + COURIERS, () -> x.rob(COURIERS));
        check.due("debt of the DEBTOR", x.debt(DEBTOR, CREDITOR, false), 1000000);
        check.due("its cash", x.brokerOf(DEBTOR, 1), 1000000);
    }

    // ---- rows

    private static void refused(String exception, String text, Twins.Deed deed) {
        Twins.refused(check, exception, text, RefusalTests::midst, deed);
    }

    private static void made(String text, Twins.Deed deed) {
        HundiHall x = midst();
        String outcome = Check.outcome(() -> deed.on(x));
        check.due(text + " is made (" + outcome + ")", outcome.endsWith("Exception"), false);
    }

    /** What is out of range is refused, what is just in range is not. */
    private static void range(String text, String exception, int least, int most, Argument call) {
        made(text + " " + least, x -> call.on(x, least));
        made(text + " " + most, x -> call.on(x, most));
        int[] outside = {MIN, MIN + 1, least - 1, most + 1, most + 2, MAX - 1, MAX};
        for (int value : outside) {
            if (value < least || value > most) {
                refused(exception, text + " " + value, x -> call.on(x, value));
            }
        }
    }

    /** There is no number below 0, and none from the count on; the first and the last one there are. */
    private static void numbered(String text, int count, Argument call) {
        int[] there = {0, count - 1};
        for (int number : there) {
            HundiHall x = midst();
            String outcome = Check.outcome(() -> call.on(x, number));
            check.due(text + ": there is " + number + " (" + outcome + ")", outcome.equals(Check.INDEX), false);
        }
        int[] missing = {MIN, -1, count, count + 1, 12, 40, MAX};
        for (int number : missing) {
            refused(Check.INDEX, text + ": there is no " + number, x -> call.on(x, number));
        }
    }

    private static void ranges() {
        check.part("ranges");
        range("broker: town", Check.INDEX, 0, 7, (x, v) -> x.broker(v, 5, 5));
        range("broker: cash", Check.ARGUMENT, 0, 1000000, (x, v) -> x.broker(0, v, 5));
        range("broker: rate", Check.ARGUMENT, 0, 100, (x, v) -> x.broker(0, 5, v));
        range("rate: rate", Check.ARGUMENT, 0, 100, (x, v) -> x.rate(1, v));
        range("trust: limit", Check.ARGUMENT, 0, 1000000, (x, v) -> { x.trust(1, 0, v, false); return 0; });
        range("order: name", Check.INDEX, 0, 19, (x, v) -> x.order(0, 2, 1, v, 0));
        range("order: code", Check.ARGUMENT, 0, 9999, (x, v) -> x.order(0, 2, 1, 0, v));
        range("fetch: code", Check.ARGUMENT, 0, 9999, (x, v) -> x.fetch(HERE_ORDER, v));
        range("pass: hours", Check.ARGUMENT, 1, 500, (x, v) -> x.pass(v));
        range("courier: hours", Check.ARGUMENT, 1, 500, (x, v) -> x.courier(DEBTOR, 7, 1, v));
        range("law: town", Check.INDEX, 0, 7, (x, v) -> x.law(v, 5));
        range("law: bound", Check.ARGUMENT, 0, 1000000, (x, v) -> x.law(0, v));
        range("list: name", Check.INDEX, 0, 19, (x, v) -> x.list(v) ? 1 : 0);
    }

    private static void rangesOfMoney() {
        check.part("ranges of money");
        range("order: amount", Check.ARGUMENT, 1, 1000000, (x, v) -> x.order(ONE, ANOTHER, v, 0, 0));
        range("pay: amount", Check.ARGUMENT, 1, 1000000, (x, v) -> x.pay(DEBTOR, CREDITOR, v));
        range("deliver: value", Check.ARGUMENT, 1, 1000000, (x, v) -> x.deliver(DEBTOR, CREDITOR, v));
        range("courier: amount", Check.ARGUMENT, 1, 1000000, (x, v) -> x.courier(DEBTOR, ONE, v, 1));
        range("way: amount", Check.ARGUMENT, 1, 1000000, (x, v) -> x.way(ONE, ANOTHER, v, 0));
    }

    private static void rangesOfQuestions() {
        check.part("ranges of questions");
        range("brokerOf: what", Check.ARGUMENT, 0, 3, (x, v) -> x.brokerOf(0, v));
        range("orderOf: what", Check.ARGUMENT, 0, 5, (x, v) -> x.orderOf(0, v));
        range("sum: what", Check.ARGUMENT, 0, 7, (x, v) -> x.sum(v));
        range("way: place", Check.INDEX, 0, MAX, (x, v) -> x.way(0, 2, 1, v));
        range("wayOf: place", Check.INDEX, 0, MAX, (x, v) -> x.wayOf(0, v));
    }

    private static void numbers() {
        check.part("numbers that do not exist");
        numbered("rate: broker", BROKERS, (x, v) -> x.rate(v, 1));
        numbered("breakWord: broker", BROKERS, (x, v) -> x.breakWord(v));
        numbered("raid: broker", BROKERS, (x, v) -> x.raid(v));
        numbered("brokerOf: broker", BROKERS, (x, v) -> x.brokerOf(v, 0));
        numbered("fetch: order", ORDERS, (x, v) -> x.fetch(v, 7));
        numbered("wayOf: order", ORDERS, (x, v) -> x.wayOf(v, 0));
        numbered("orderOf: order", ORDERS, (x, v) -> x.orderOf(v, 0));
        numbered("rob: courier", COURIERS, (x, v) -> x.rob(v));
    }

    private static void numbersOfTwo() {
        check.part("numbers of either broker");
        numbered("trust: by", BROKERS, (x, v) -> { x.trust(v, 2, 10, true); return 0; });
        numbered("trust: other", BROKERS, (x, v) -> { x.trust(2, v, 10, true); return 0; });
        numbered("order: first", BROKERS, (x, v) -> x.order(v, 2, 1, 0, 0));
        numbered("order: last", BROKERS, (x, v) -> x.order(1, v, 1, 0, 0));
        numbered("debt: broker", BROKERS, (x, v) -> x.debt(v, 0, false));
        numbered("debt: other", BROKERS, (x, v) -> x.debt(0, v, true));
        numbered("agree: broker", BROKERS, (x, v) -> x.agree(v, 0) ? 1 : 0);
        numbered("agree: other", BROKERS, (x, v) -> x.agree(0, v) ? 1 : 0);
        numbered("way: first", BROKERS, (x, v) -> x.way(v, 2, 1, 0));
        numbered("way: last", BROKERS, (x, v) -> x.way(1, v, 1, 0));
    }

    private static void numbersInSettling() {
        check.part("numbers of either broker in settling");
        numbered("pay: broker", BROKERS, (x, v) -> x.pay(v, 5, 1));
        numbered("pay: other", BROKERS, (x, v) -> x.pay(6, v, 1));
        numbered("deliver: broker", BROKERS, (x, v) -> x.deliver(v, 5, 1));
        numbered("deliver: other", BROKERS, (x, v) -> x.deliver(6, v, 1));
        numbered("courier: broker", BROKERS, (x, v) -> x.courier(v, 5, 1, 1));
        numbered("courier: other", BROKERS, (x, v) -> x.courier(6, v, 1, 1));
    }

    private static void emptyHall() {
        check.part("1: in a new hall there are no brokers, orders, couriers");
        Twins.Deed[] deeds = {
            x -> x.rate(0, 0), x -> { x.trust(0, 1, 0, false); return 0; }, x -> x.breakWord(0), x -> x.raid(0),
            x -> x.order(0, 1, 1, 0, 0), x -> x.fetch(0, 0), x -> x.pay(0, 1, 1), x -> x.deliver(0, 1, 1),
            x -> x.courier(0, 1, 1, 1), x -> x.rob(0), x -> x.brokerOf(0, 0), x -> x.debt(0, 0, false),
            x -> x.agree(0, 0) ? 1 : 0, x -> x.way(0, 1, 1, 0), x -> x.wayOf(0, 0), x -> x.orderOf(0, 0),
        };
        for (int i = 0; i < deeds.length; i++) {
            Twins.refused(check, Check.INDEX, "call " + i, RefusalTests::empty, deeds[i]);
        }
    }

    private static void bothTheSame() {
        check.part("both are the same");
        int[] brokers = {0, BROKEN_ONE, BROKERS - 1};
        for (int i : brokers) {
            refused(Check.ARGUMENT, "trust " + i, x -> { x.trust(i, i, 1, false); return 0; });
            refused(Check.ARGUMENT, "order " + i, x -> x.order(i, i, 1, 0, 0));
            refused(Check.ARGUMENT, "pay " + i, x -> x.pay(i, i, 1));
            refused(Check.ARGUMENT, "deliver " + i, x -> x.deliver(i, i, 1));
            refused(Check.ARGUMENT, "courier " + i, x -> x.courier(i, i, 1, 1));
            refused(Check.ARGUMENT, "way " + i, x -> x.way(i, i, 1, 0));
            made("debt " + i, x -> x.debt(i, i, false));
            made("agree " + i, x -> x.agree(i, i) ? 1 : 0);
        }
        int[] missing = {-1, BROKERS};
        for (int i : missing) {
            refused(Check.INDEX, "trust " + i, x -> { x.trust(i, i, 1, false); return 0; });
            refused(Check.INDEX, "order " + i, x -> x.order(i, i, 1, 0, 0));
            refused(Check.INDEX, "pay " + i, x -> x.pay(i, i, 1));
            refused(Check.INDEX, "deliver " + i, x -> x.deliver(i, i, 1));
            refused(Check.INDEX, "courier " + i, x -> x.courier(i, i, 1, 1));
            refused(Check.INDEX, "way " + i, x -> x.way(i, i, 1, 0));
            refused(Check.INDEX, "debt " + i, x -> x.debt(i, i, true));
            refused(Check.INDEX, "agree " + i, x -> x.agree(i, i) ? 1 : 0);
        }
    }

    // ---- calls that are not possible now

    private static void fullHall() {
        check.part("2, 8, 13: at most 12 brokers, 40 orders, 40 couriers");
        HundiHall x = new HundiHall();
        for (int i = 0; i < 12; i++) {
            check.due("broker " + i, x.broker(0, 50, 0), i);
        }
        x.trust(1, 0, 1000, false);
        for (int i = 0; i < 40; i++) {
            check.due("order " + i, x.order(0, 1, 1, 0, 0), i);
            check.due("courier " + i, x.courier(0, 1, 1, 1), i);
        }
        Twins.refused(check, Check.STATE, "thirteenth broker", RefusalTests::full, y -> y.broker(7, 0, 0));
        Twins.refused(check, Check.STATE, "forty-first order", RefusalTests::full, y -> y.order(0, 1, 1, 0, 0));
        Twins.refused(check, Check.STATE, "forty-first courier", RefusalTests::full, y -> y.courier(0, 1, 1, 1));
        Twins.refused(check, Check.INDEX, "broker 12", RefusalTests::full, y -> y.raid(12));
        Twins.refused(check, Check.INDEX, "order 40", RefusalTests::full, y -> y.fetch(40, 0));
        Twins.refused(check, Check.INDEX, "courier 40", RefusalTests::full, y -> y.rob(40));
        Twins.refused(check, Check.ARGUMENT, "cash -1", RefusalTests::full, y -> y.broker(0, -1, 0));
        Twins.refused(check, Check.ARGUMENT, "rate 101", RefusalTests::full, y -> y.broker(0, 0, 101));
        Twins.refused(check, Check.INDEX, "town 8", RefusalTests::full, y -> y.broker(8, 0, 0));
        Twins.refused(check, Check.ARGUMENT, "code 10000", RefusalTests::full, y -> y.order(0, 1, 1, 0, 10000));
        Twins.refused(check, Check.ARGUMENT, "amount 0", RefusalTests::full, y -> y.order(0, 1, 0, 0, 0));
        Twins.refused(check, Check.ARGUMENT, "courier of 0", RefusalTests::full, y -> y.courier(0, 1, 0, 1));
        Twins.refused(check, Check.INDEX, "name 20", RefusalTests::full, y -> y.order(0, 1, 1, 20, 0));
        Twins.refused(check, Check.ARGUMENT, "hours 501", RefusalTests::full, y -> y.courier(0, 1, 1, 501));
        HundiHall z = full();
        z.pass(500);
        check.due("orders have ended", z.sum(0) - z.sum(2), 0);
        check.due("couriers have come", z.sum(5), 0);
        check.dueThrow(Check.STATE, "forty-first order then", () -> z.order(0, 1, 1, 0, 0));
        check.dueThrow(Check.STATE, "forty-first courier then", () -> z.courier(0, 1, 1, 1));
    }

    private static void brokenWords() {
        check.part("6: IllegalStateException if it is BROKEN");
        made("of a GOOD one", x -> x.breakWord(FIRST));
        made("of a RAIDED one", x -> x.breakWord(RAIDED_ONE));
        refused(Check.STATE, "of a BROKEN one", x -> x.breakWord(BROKEN_ONE));
    }

    private static void raids() {
        check.part("7: IllegalStateException if it is not GOOD");
        made("of a GOOD one", x -> x.raid(FIRST));
        refused(Check.STATE, "of a RAIDED one", x -> x.raid(RAIDED_ONE));
        refused(Check.STATE, "of a BROKEN one", x -> x.raid(BROKEN_ONE));
    }

    private static void orders() {
        check.part("8: IllegalStateException if the name is listed, or there is no way");
        made("a name that is not listed", x -> x.order(FIRST, END, 100, LISTED + 1, 0));
        refused(Check.STATE, "a listed name", x -> x.order(FIRST, END, 100, LISTED, 0));
        refused(Check.STATE, "no trust", x -> x.order(FIRST, ANOTHER, 100, 0, 0));
        refused(Check.STATE, "the first one RAIDED", x -> x.order(RAIDED_ONE, END, 100, 0, 0));
        refused(Check.STATE, "the last one RAIDED", x -> x.order(FIRST, RAIDED_ONE, 100, 0, 0));
        refused(Check.STATE, "the first one BROKEN", x -> x.order(BROKEN_ONE, END, 100, 0, 0));
        refused(Check.STATE, "the last one BROKEN", x -> x.order(FIRST, BROKEN_ONE, 100, 0, 0));
        int left = (int) (5000 - midst().debt(FIRST, MIDDLE, false));
        int most = 1;
        while (most + 1 + (most + 1) * 20 / 1000 <= left) {
            most++;
        }
        int amount = most;
        made("as far as the limit", x -> x.order(FIRST, MIDDLE, amount, 0, 0));
        refused(Check.STATE, "one more than the limit", x -> x.order(FIRST, MIDDLE, amount + 1, 0, 0));
    }

    private static void fetching() {
        check.part("9: IllegalStateException if it is not HERE, the last one is not GOOD, or has less cash");
        made("what is HERE", x -> x.fetch(HERE_ORDER, 0));
        made("what is HERE, by a false code", x -> x.fetch(HERE_ORDER, 1));
        refused(Check.ARGUMENT, "what is HERE, by no code", x -> x.fetch(HERE_ORDER, 10000));
        int[] others = {PAID_ORDER, BACK_ORDER, LOST_ORDER, GOING_ORDER, WAY_ORDER, RAIDED_END_ORDER,
            BROKEN_END_ORDER, DEAR_ORDER};
        for (int order : others) {
            int code = order == WAY_ORDER ? 9999 : 7;
            refused(Check.STATE, "order " + order, x -> x.fetch(order, code));
            refused(Check.STATE, "order " + order + " by a false code", x -> x.fetch(order, 8));
        }
        HundiHall x = midst();
        check.due("cash of the RAIDED one is enough", x.brokerOf(RAIDED_ONE, 1) >= x.orderOf(RAIDED_END_ORDER, 1), true);
        check.due("cash of the BROKEN one too", x.brokerOf(BROKEN_ONE, 1) >= x.orderOf(BROKEN_END_ORDER, 1), true);
        check.due("cash for the dear one is not", x.brokerOf(END, 1) < x.orderOf(DEAR_ORDER, 1), true);
        cashOfTheLastOne();
    }

    /** A HERE order of 100, whose last broker has the cash. */
    private static HundiHall hereWithCash(int cash) {
        HundiHall x = new HundiHall();
        x.broker(0, 0, 0);
        x.broker(1, cash, 0);
        x.broker(2, 1000, 0);
        x.trust(1, 0, 1000, false);
        x.order(0, 1, 100, 0, 7);
        x.pass(1);
        return x;
    }

    private static void cashOfTheLastOne() {
        check.due("cash of the amount", hereWithCash(100).fetch(0, 7), HundiHall.PAID);
        check.due("cash of the amount, a false code", hereWithCash(100).fetch(0, 8), HundiHall.HERE);
        Twins.refused(check, Check.STATE, "one less", () -> hereWithCash(99), x -> x.fetch(0, 7));
        Twins.refused(check, Check.STATE, "one less, a false code", () -> hereWithCash(99), x -> x.fetch(0, 8));
        Twins.refused(check, Check.STATE, "no cash", () -> hereWithCash(0), x -> x.fetch(0, 7));
    }

    private static void pays() {
        check.part("11: IllegalStateException if one of both is not GOOD, or the debt, or the cash, is less");
        made("all the debt", x -> x.pay(DEBTOR, CREDITOR, 1000000));
        refused(Check.STATE, "who is owed", x -> x.pay(END, RAIDED_ONE, 1));
        refused(Check.STATE, "who owes nothing", x -> x.pay(DEBTOR, ONE, 1));
        refused(Check.STATE, "who owes is RAIDED", x -> x.pay(RAIDED_ONE, END, 1));
        refused(Check.STATE, "who owes is BROKEN", x -> x.pay(BROKEN_ONE, END, 1));
        refused(Check.STATE, "who is owed is RAIDED", x -> x.pay(MIDDLE, RAIDED_ONE, 1));
        refused(Check.STATE, "who is owed is BROKEN", x -> x.pay(MIDDLE, BROKEN_ONE, 1));
        HundiHall x = midst();
        check.due("the RAIDED one owes", x.debt(RAIDED_ONE, END, false), 200);
        check.due("the BROKEN one owes", x.debt(BROKEN_ONE, END, false), 50);
        check.due("the RAIDED one is owed", x.debt(MIDDLE, RAIDED_ONE, false), 80);
        check.due("the BROKEN one is owed", x.debt(MIDDLE, BROKEN_ONE, false), 70);
        check.due("by one with cash", x.brokerOf(MIDDLE, 1) > 80, true);
        check.due("just the debt", owing(30, 100).pay(0, 1, 30), 0);
        check.due("just the cash", owing(130, 100).pay(0, 1, 100), 30);
        check.due("just both", owing(100, 100).pay(0, 1, 100), 0);
        Twins.refused(check, Check.STATE, "one more than the debt", () -> owing(30, 100), y -> y.pay(0, 1, 31));
        Twins.refused(check, Check.STATE, "one more than the cash", () -> owing(130, 100), y -> y.pay(0, 1, 101));
        Twins.refused(check, Check.STATE, "one more than both", () -> owing(100, 100), y -> y.pay(0, 1, 101));
        Twins.refused(check, Check.STATE, "without cash", () -> owing(100, 0), y -> y.pay(0, 1, 1));
    }

    /** 0 owes 1 the debt, and has the cash. */
    private static HundiHall owing(int debt, int cash) {
        HundiHall x = new HundiHall();
        x.broker(0, 1000, 0);
        x.broker(1, 1000, 0);
        x.broker(2, 0, 0);
        x.courier(1, 0, debt, 1);
        x.pass(1);
        x.courier(0, 2, 1000 + debt - cash, 1);
        x.pass(1);
        return x;
    }

    private static void delivers() {
        check.part("12: IllegalStateException if one of both is BROKEN, or the debt is less");
        made("all the debt", x -> x.deliver(DEBTOR, CREDITOR, 1000000));
        made("who owes is RAIDED", x -> x.deliver(RAIDED_ONE, END, 200));
        made("who is owed is RAIDED", x -> x.deliver(MIDDLE, RAIDED_ONE, 80));
        refused(Check.STATE, "who owes is RAIDED, one more", x -> x.deliver(RAIDED_ONE, END, 201));
        refused(Check.STATE, "who is owed is RAIDED, one more", x -> x.deliver(MIDDLE, RAIDED_ONE, 81));
        refused(Check.STATE, "who owes is BROKEN", x -> x.deliver(BROKEN_ONE, END, 1));
        refused(Check.STATE, "who is owed is BROKEN", x -> x.deliver(MIDDLE, BROKEN_ONE, 1));
        refused(Check.STATE, "who is owed", x -> x.deliver(END, RAIDED_ONE, 1));
        refused(Check.STATE, "who owes nothing", x -> x.deliver(DEBTOR, ONE, 1));
        check.due("just the debt", owing(100, 0).deliver(0, 1, 100), 0);
        check.due("a part", owing(100, 0).deliver(0, 1, 99), 1);
        Twins.refused(check, Check.STATE, "one more than the debt", () -> owing(100, 1000), y -> y.deliver(0, 1, 101));
    }

    private static void couriers() {
        check.part("13: IllegalStateException if the first one is not GOOD, or has less cash");
        HundiHall x = midst();
        int cash = (int) x.brokerOf(END, 1);
        made("all the cash", y -> y.courier(END, FIRST, cash, 1));
        refused(Check.STATE, "one more than the cash", y -> y.courier(END, FIRST, cash + 1, 1));
        refused(Check.STATE, "without cash", y -> y.courier(CREDITOR, DEBTOR, 1, 1));
        refused(Check.STATE, "from a RAIDED one", y -> y.courier(RAIDED_ONE, FIRST, 1, 1));
        refused(Check.STATE, "from a BROKEN one", y -> y.courier(BROKEN_ONE, FIRST, 1, 1));
        made("to a RAIDED one", y -> y.courier(FIRST, RAIDED_ONE, 1, 1));
        made("to a BROKEN one", y -> y.courier(FIRST, BROKEN_ONE, 1, 1));
    }

    private static void robs() {
        check.part("14: IllegalStateException if that one has come, or was robbed");
        made("on the road", x -> x.rob(ROAD_COURIER));
        refused(Check.STATE, "has come", x -> x.rob(COME_COURIER));
        refused(Check.STATE, "was robbed", x -> x.rob(ROBBED_COURIER));
    }

    // ---- which exception goes first

    private static void indexAheadOfArgument() {
        check.part("IndexOutOfBoundsException goes ahead of IllegalArgumentException");
        refused(Check.INDEX, "broker", x -> x.broker(8, -1, 5));
        refused(Check.INDEX, "broker", x -> x.broker(-1, 5, 101));
        refused(Check.INDEX, "rate", x -> x.rate(BROKERS, -1));
        refused(Check.INDEX, "trust, by", x -> { x.trust(BROKERS, 0, -1, true); return 0; });
        refused(Check.INDEX, "trust, other", x -> { x.trust(0, BROKERS, 1000001, true); return 0; });
        refused(Check.INDEX, "order, first", x -> x.order(BROKERS, 0, 0, 0, 0));
        refused(Check.INDEX, "order, last", x -> x.order(0, BROKERS, 0, 0, 10000));
        refused(Check.INDEX, "order, name", x -> x.order(0, 1, 0, 20, 0));
        refused(Check.INDEX, "order, name, code", x -> x.order(0, 1, 1, -1, -1));
        refused(Check.INDEX, "order, name, both the same", x -> x.order(1, 1, 1, 20, 0));
        refused(Check.INDEX, "fetch", x -> x.fetch(ORDERS, 10000));
        refused(Check.INDEX, "pay, broker", x -> x.pay(BROKERS, 0, 0));
        refused(Check.INDEX, "pay, other", x -> x.pay(0, BROKERS, 0));
        refused(Check.INDEX, "deliver, broker", x -> x.deliver(BROKERS, 0, 0));
        refused(Check.INDEX, "deliver, other", x -> x.deliver(0, BROKERS, 0));
        refused(Check.INDEX, "courier, broker", x -> x.courier(BROKERS, 0, 0, 1));
        refused(Check.INDEX, "courier, other", x -> x.courier(0, BROKERS, 1, 0));
        refused(Check.INDEX, "law", x -> x.law(8, -1));
        refused(Check.INDEX, "brokerOf", x -> x.brokerOf(BROKERS, 4));
        refused(Check.INDEX, "way, first", x -> x.way(BROKERS, 0, 0, 0));
        refused(Check.INDEX, "way, last", x -> x.way(0, BROKERS, 0, 0));
        refused(Check.INDEX, "way, place", x -> x.way(0, 1, 0, -1));
        refused(Check.INDEX, "way, place, both the same", x -> x.way(1, 1, 1, -1));
        refused(Check.INDEX, "orderOf", x -> x.orderOf(ORDERS, 6));
    }

    private static void indexAheadOfState() {
        check.part("IndexOutOfBoundsException goes ahead of IllegalStateException");
        refused(Check.INDEX, "order, first", x -> x.order(BROKERS, END, 1, LISTED, 0));
        refused(Check.INDEX, "order, last", x -> x.order(END, BROKERS, 1, LISTED, 0));
        refused(Check.INDEX, "order, name, no way", x -> x.order(FIRST, ANOTHER, 1, 20, 0));
        refused(Check.INDEX, "pay, from a RAIDED one", x -> x.pay(RAIDED_ONE, BROKERS, 1));
        refused(Check.INDEX, "pay, to a RAIDED one", x -> x.pay(-1, RAIDED_ONE, 1));
        refused(Check.INDEX, "deliver, from a BROKEN one", x -> x.deliver(BROKEN_ONE, BROKERS, 1));
        refused(Check.INDEX, "deliver, to a BROKEN one", x -> x.deliver(BROKERS, BROKEN_ONE, 1));
        refused(Check.INDEX, "courier, from a RAIDED one", x -> x.courier(RAIDED_ONE, BROKERS, 1, 1));
    }

    private static void argumentAheadOfState() {
        check.part("IllegalArgumentException goes ahead of IllegalStateException");
        refused(Check.ARGUMENT, "order, amount, listed name", x -> x.order(FIRST, END, 0, LISTED, 0));
        refused(Check.ARGUMENT, "order, code, listed name", x -> x.order(FIRST, END, 1, LISTED, 10000));
        refused(Check.ARGUMENT, "order, amount, no way", x -> x.order(FIRST, ANOTHER, 1000001, 0, 0));
        refused(Check.ARGUMENT, "order, code, no way", x -> x.order(FIRST, ANOTHER, 1, 0, -1));
        refused(Check.ARGUMENT, "order, both the same, listed", x -> x.order(FIRST, FIRST, 1, LISTED, 0));
        int[] orders = {WAY_ORDER, PAID_ORDER, GOING_ORDER, BACK_ORDER, LOST_ORDER, RAIDED_END_ORDER, DEAR_ORDER};
        for (int order : orders) {
            refused(Check.ARGUMENT, "fetch, code, order " + order, x -> x.fetch(order, 10000));
            refused(Check.ARGUMENT, "fetch, code, order " + order, x -> x.fetch(order, -1));
        }
        refused(Check.ARGUMENT, "pay, from a RAIDED one", x -> x.pay(RAIDED_ONE, END, 0));
        refused(Check.ARGUMENT, "pay, to a BROKEN one", x -> x.pay(MIDDLE, BROKEN_ONE, 1000001));
        refused(Check.ARGUMENT, "pay, no debt", x -> x.pay(CREDITOR, DEBTOR, 0));
        refused(Check.ARGUMENT, "deliver, from a BROKEN one", x -> x.deliver(BROKEN_ONE, END, 0));
        refused(Check.ARGUMENT, "deliver, no debt", x -> x.deliver(CREDITOR, DEBTOR, 1000001));
        refused(Check.ARGUMENT, "courier, amount, from a RAIDED one", x -> x.courier(RAIDED_ONE, END, 0, 1));
        refused(Check.ARGUMENT, "courier, hours, from a BROKEN one", x -> x.courier(BROKEN_ONE, END, 1, 0));
        refused(Check.ARGUMENT, "courier, hours, without cash", x -> x.courier(CREDITOR, END, 1, 501));
        refused(Check.ARGUMENT, "courier, both the same, without cash", x -> x.courier(CREDITOR, CREDITOR, 1, 1));
    }
}
