/** Tests of each promise, with answers taken from the document by hand. */
public final class PromiseTests {
    private static final Check check = new Check();
    private static final int MIN = Integer.MIN_VALUE;
    private static final int MAX = Integer.MAX_VALUE;

    public static void main(String[] args) {
        newObject();
        brokers();
        rates();
        trusts();
        festivals();
        brokenWords();
        raids();
        newWays();
        orders();
        fetching();
        hours();
        goingBack();
        pays();
        delivers();
        couriers();
        robs();
        rings();
        laws();
        lists();
        brokerAnswers();
        debts();
        books();
        ways();
        orderAnswers();
        inquiries();
        sums();
        failedCallsChangeNothing();
        fullHall();
        oddArguments();
        check.end("PromiseTests");
    }

    private static void newObject() {
        check.part("1 new object");
        HundiHall x = new HundiHall();
        check.dueThrow(Check.INDEX, "brokerOf(0, 0)", () -> x.brokerOf(0, 0));
        check.dueThrow(Check.INDEX, "orderOf(0, 0)", () -> x.orderOf(0, 0));
        check.dueThrow(Check.INDEX, "rob(0)", () -> x.rob(0));
        check.due("inquiry()", x.inquiry(), 0);
        check.due("ring()", x.ring(), 0);
        for (int what = 0; what <= 7; what++) {
            check.due("sum(" + what + ")", x.sum(what), 0);
        }
        for (int town = 0; town < 8; town++) {
            check.due("law(" + town + ")", x.law(town, 7), 0);
        }
        check.due("first broker", x.broker(0, 0, 0), 0);
        check.due("pass(1)", x.pass(1), 1);
        HundiHall y = new HundiHall();
        check.due("another object", y.pass(3), 3);
        check.dueThrow(Check.INDEX, "another object's broker", () -> y.brokerOf(0, 0));
    }

    private static void brokers() {
        check.part("2 broker");
        HundiHall x = new HundiHall();
        check.dueThrow(Check.INDEX, "town -1", () -> x.broker(-1, 0, 0));
        check.dueThrow(Check.INDEX, "town 8", () -> x.broker(8, 0, 0));
        check.dueThrow(Check.INDEX, "town MIN", () -> x.broker(MIN, 0, 0));
        check.dueThrow(Check.INDEX, "town 8, all wrong", () -> x.broker(8, -1, -1));
        check.dueThrow(Check.ARGUMENT, "cash -1", () -> x.broker(0, -1, 0));
        check.dueThrow(Check.ARGUMENT, "cash 1000001", () -> x.broker(0, 1000001, 0));
        check.dueThrow(Check.ARGUMENT, "rate -1", () -> x.broker(0, 0, -1));
        check.dueThrow(Check.ARGUMENT, "rate 101", () -> x.broker(0, 0, 101));
        check.due("the least", x.broker(0, 0, 0), 0);
        check.due("the most", x.broker(7, 1000000, 100), 1);
        check.due("town", x.brokerOf(1, 2), 7);
        check.due("cash", x.brokerOf(1, 1), 1000000);
        check.due("state", x.brokerOf(1, 0), HundiHall.GOOD);
        check.due("rate", x.rate(1, 0), 100);
        for (int i = 2; i < 12; i++) {
            check.due("broker", x.broker(3, i, 5), i);
        }
        check.dueThrow(Check.STATE, "thirteenth", () -> x.broker(0, 0, 0));
        check.dueThrow(Check.ARGUMENT, "thirteenth, wrong cash", () -> x.broker(0, -1, 0));
        check.dueThrow(Check.INDEX, "thirteenth, wrong town", () -> x.broker(9, 0, 0));
        check.dueThrow(Check.INDEX, "no thirteenth", () -> x.brokerOf(12, 0));
        check.due("last one's cash", x.brokerOf(11, 1), 11);
    }

    private static void rates() {
        check.part("3 rate");
        HundiHall x = Halls.chain(3, 10000);
        check.dueThrow(Check.INDEX, "rate(3, 0)", () -> x.rate(3, 0));
        check.dueThrow(Check.INDEX, "rate(-1, 0)", () -> x.rate(-1, 0));
        check.dueThrow(Check.INDEX, "rate(3, -1)", () -> x.rate(3, -1));
        check.dueThrow(Check.ARGUMENT, "rate(0, -1)", () -> x.rate(0, -1));
        check.dueThrow(Check.ARGUMENT, "rate(0, 101)", () -> x.rate(0, 101));
        check.due("rate(1, 100)", x.rate(1, 100), 0);
        check.due("order", x.order(0, 2, 100, 0, 1), 0);
        check.due("given", x.orderOf(0, 2), 110);
        check.due("rate(1, 7)", x.rate(1, 7), 100);
        check.due("rate(1, 0)", x.rate(1, 0), 7);
        check.due("given as before", x.orderOf(0, 2), 110);
        check.due("debt as before", x.debt(0, 1, false), 110);
        check.due("order", x.order(0, 2, 100, 0, 1), 1);
        check.due("given by the rate of then", x.orderOf(1, 2), 100);
        x.breakWord(1);
        check.due("rate of a BROKEN one", x.rate(1, 3), 0);
        check.due("fee, cut", feeOf(999, 1), 0);
        check.due("fee, whole", feeOf(1000, 1), 1);
        check.due("fee, cut again", feeOf(1999, 1), 1);
        check.due("the dearest fee", feeOf(1000000, 100), 100000);
    }

    private static long feeOf(int amount, int rate) {
        HundiHall x = Halls.chain(2, 1000000);
        x.rate(0, rate);
        x.order(0, 1, amount, 0, 0);
        return x.orderOf(0, 2) - amount;
    }

    private static void trusts() {
        check.part("4 trust");
        HundiHall x = Halls.chain(2, 0);
        check.dueThrow(Check.INDEX, "trust(2, 0)", () -> { x.trust(2, 0, 1, true); return 0; });
        check.dueThrow(Check.INDEX, "trust(0, 2)", () -> { x.trust(0, 2, 1, true); return 0; });
        check.dueThrow(Check.INDEX, "trust(-1, 0)", () -> { x.trust(-1, 0, 1, true); return 0; });
        check.dueThrow(Check.INDEX, "trust(0, -1)", () -> { x.trust(0, -1, 1, true); return 0; });
        check.dueThrow(Check.INDEX, "trust(2, 2, -1)", () -> { x.trust(2, 2, -1, true); return 0; });
        check.dueThrow(Check.ARGUMENT, "trust(0, 0)", () -> { x.trust(0, 0, 1, true); return 0; });
        check.dueThrow(Check.ARGUMENT, "limit -1", () -> { x.trust(1, 0, -1, true); return 0; });
        check.dueThrow(Check.ARGUMENT, "limit 1000001", () -> { x.trust(1, 0, 1000001, true); return 0; });
        check.due("none trusts at first", Halls.wayText(x, 0, 1, 1), "");
        x.trust(1, 0, 10, false);
        check.due("as far as the limit", Halls.wayText(x, 0, 1, 10), "0-1");
        check.due("above the limit", Halls.wayText(x, 0, 1, 11), "");
        check.due("trust goes one way", Halls.wayText(x, 1, 0, 1), "");
        x.trust(1, 0, 3, false);
        check.due("a later limit", Halls.wayText(x, 0, 1, 3) + Halls.wayText(x, 0, 1, 4), "0-1");
        x.trust(1, 0, 1000000, false);
        check.due("the highest limit", Halls.wayText(x, 0, 1, 1000000), "0-1");
        x.order(0, 1, 600000, 0, 0);
        check.due("the debt counts", Halls.wayText(x, 0, 1, 400000) + Halls.wayText(x, 0, 1, 400001), "0-1");
        x.deliver(0, 1, 600000);
        x.trust(0, 1, 50, false);
        x.trust(1, 0, 10, false);
        x.order(1, 0, 50, 0, 0);
        check.due("a debt the other way is taken off", Halls.wayText(x, 0, 1, 60) + Halls.wayText(x, 0, 1, 61), "0-1");
        x.trust(1, 0, 0, false);
        check.due("also with the limit 0", Halls.wayText(x, 0, 1, 50) + Halls.wayText(x, 0, 1, 51), "0-1");
        HundiHall y = Halls.chain(3, 1000);
        y.rate(1, 20);
        y.rate(2, 10);
        y.trust(1, 0, 515, false);
        y.trust(2, 1, 505, false);
        check.due("limits with the fees behind", Halls.wayText(y, 0, 2, 500), "0-1-2");
        y.trust(2, 1, 504, false);
        check.due("limit of the last one", Halls.wayText(y, 0, 2, 500), "");
        y.trust(2, 1, 505, false);
        y.trust(1, 0, 514, false);
        check.due("limit of the second one", Halls.wayText(y, 0, 2, 500), "");
    }

    private static void festivals() {
        check.part("5 festival");
        HundiHall x = Halls.chain(3, 10);
        x.trust(1, 0, 10, true);
        check.due("before", Halls.wayText(x, 0, 1, 11), "");
        check.due("begins", x.festival(), true);
        check.due("kin, twice the limit", Halls.wayText(x, 0, 1, 20), "0-1");
        check.due("kin, more", Halls.wayText(x, 0, 1, 21), "");
        check.due("no kin", Halls.wayText(x, 1, 2, 10) + Halls.wayText(x, 1, 2, 11), "1-2");
        x.trust(0, 1, 5, false);
        check.due("kin by the other trust alone", Halls.wayText(x, 1, 0, 6), "");
        check.due("order", x.order(0, 1, 15, 0, 0), 0);
        check.due("ends", x.festival(), false);
        check.due("after", Halls.wayText(x, 0, 1, 1), "");
        check.due("the debt stays", x.debt(0, 1, false), 15);
        check.due("again", x.festival(), true);
        check.due("the rest of twice the limit", Halls.wayText(x, 0, 1, 5) + Halls.wayText(x, 0, 1, 6), "0-1");
        x.trust(1, 0, 1000000, true);
        x.trust(2, 1, 1000000, true);
        x.rate(1, 100);
        x.rate(2, 100);
        check.due("fees above 1000000", Halls.wayText(x, 0, 2, 1000000), "0-1-2");
        x.trust(1, 0, 10, false);
        check.due("kin no more", Halls.wayText(x, 0, 1, 1), "");
    }

    private static void brokenWords() {
        check.part("6 breakWord");
        HundiHall x = Halls.chain(3, 1000);
        check.dueThrow(Check.INDEX, "breakWord(3)", () -> x.breakWord(3));
        check.dueThrow(Check.INDEX, "breakWord(-1)", () -> x.breakWord(-1));
        x.rate(0, 10);
        x.order(0, 2, 100, 0, 5);
        x.order(0, 1, 100, 0, 5);
        x.order(1, 2, 100, 0, 5);
        x.order(0, 1, 100, 0, 5);
        x.pass(1);
        Halls.fetchFalse(x, 3, 6, 3);
        check.due("GOES_BACK ahead of it", x.orderOf(3, 0), HundiHall.GOES_BACK);
        check.due("breakWord(0)", x.breakWord(0), 2);
        check.due("state", x.brokerOf(0, 0), HundiHall.BROKEN);
        check.due("was ON_ITS_WAY", x.orderOf(0, 0), HundiHall.LOST);
        check.due("was HERE", x.orderOf(1, 0), HundiHall.HERE);
        check.due("of another one", x.orderOf(2, 0), HundiHall.HERE);
        check.due("was GOES_BACK", x.orderOf(3, 0), HundiHall.LOST);
        check.due("debt of what is HERE", x.debt(0, 1, false), 100);
        check.due("debt taken back", x.debt(1, 2, false), 100);
        check.due("by the book", x.debt(1, 0, true), -100);
        check.due("cash stays", x.brokerOf(0, 1), 303);
        check.due("sum of LOST", x.sum(7), 202);
        check.due("none was raided", x.inquiry(), 0);
        check.dueThrow(Check.STATE, "twice", () -> x.breakWord(0));
        check.dueThrow(Check.STATE, "raid of it", () -> x.raid(0));
        check.due("no way from it", Halls.wayText(x, 0, 1, 1), "");
        Halls.fetchFalse(x, 1, 6, 2);
        check.due("would begin to go back", x.fetch(1, 6), HundiHall.LOST);
        check.due("its debts too", x.debt(0, 1, false), 0);
        check.due("by the books", x.debt(0, 1, true) + x.debt(1, 0, true), 0);
        check.due("sum of LOST then", x.sum(7), 303);
        check.due("nothing is given back", x.pass(300) + x.brokerOf(0, 1), 301 + 303);
        brokenWordsLater();
        lostAheadOfNewWays();
    }

    private static void brokenWordsLater() {
        HundiHall x = Halls.chain(3, 1000);
        x.order(0, 1, 100, 0, 0);
        x.pass(1);
        check.due("HERE is not LOST", x.breakWord(0), 0);
        x.pass(238);
        check.due("not too old", x.orderOf(0, 0), HundiHall.HERE);
        x.pass(1);
        check.due("too old", x.orderOf(0, 0), HundiHall.LOST);
        check.due("debt", x.debt(0, 1, false), 0);
        x.raid(1);
        check.due("of a RAIDED one", x.breakWord(1), 0);
        x.pass(500);
        x.pass(500);
        check.due("for good", x.brokerOf(1, 0), HundiHall.BROKEN);
        HundiHall y = Halls.chain(4, 1000);
        y.order(0, 3, 100, 0, 0);
        check.due("on the rest of a way", y.breakWord(2), 0);
        check.due("goes back", y.orderOf(0, 0), HundiHall.GOES_BACK);
        check.due("debts", y.debt(0, 1, false) + y.debt(1, 2, false) + y.debt(2, 3, false), 0);
        HundiHall z = Halls.chain(4, 1000);
        z.order(0, 3, 100, 0, 0);
        z.pass(1);
        check.due("with whom the message is", z.breakWord(1), 0);
        check.due("is on its way", z.orderOf(0, 0), HundiHall.ON_ITS_WAY);
        z.pass(2);
        check.due("and comes", z.orderOf(0, 0), HundiHall.HERE);
    }

    /** What is LOST sets its debts free for the new way of an order with a lower number. */
    private static void lostAheadOfNewWays() {
        HundiHall x = new HundiHall();
        for (int i = 0; i < 4; i++) {
            x.broker(0, 0, 0);
        }
        x.trust(1, 0, 100, false);
        x.trust(3, 1, 100, false);
        x.trust(2, 0, 100, false);
        x.trust(3, 2, 100, false);
        x.trust(2, 1, 100, false);
        x.order(0, 3, 100, 0, 0);
        x.order(1, 3, 60, 0, 0);
        check.due("first way", Halls.wayTextOf(x, 0), "0-1-3");
        check.due("second way", Halls.wayTextOf(x, 1), "1-2-3");
        check.due("breakWord(1)", x.breakWord(1), 1);
        check.due("new way", Halls.wayTextOf(x, 0), "0-2-3");
        check.due("still on its way", x.orderOf(0, 0), HundiHall.ON_ITS_WAY);
        check.due("debt", x.debt(2, 3, false), 100);
    }

    private static void raids() {
        check.part("7 raid");
        HundiHall x = Halls.chain(4, 1000);
        int rich = x.broker(1, 500, 0);
        check.dueThrow(Check.INDEX, "raid(5)", () -> x.raid(5));
        check.dueThrow(Check.INDEX, "raid(-1)", () -> x.raid(-1));
        check.due("seized", x.raid(rich), 500);
        check.due("cash", x.brokerOf(rich, 1), 0);
        check.due("state", x.brokerOf(rich, 0), HundiHall.RAIDED);
        check.due("sum", x.sum(4), 500);
        check.due("inquiry", x.inquiry(), 16);
        check.dueThrow(Check.STATE, "twice", () -> x.raid(rich));
        x.order(0, 3, 100, 0, 0);
        check.due("of the first one", x.raid(0), 100);
        check.due("on its way as before", x.orderOf(0, 0), HundiHall.ON_ITS_WAY);
        x.pass(1);
        check.due("of one that has the message", x.raid(1), 0);
        check.due("on its way then too", x.orderOf(0, 0), HundiHall.ON_ITS_WAY);
        x.pass(2);
        check.due("of the last one", x.raid(3), 0);
        check.due("HERE", x.orderOf(0, 0), HundiHall.HERE);
        x.pass(500);
        x.pass(216);
        check.due("719 hours", x.brokerOf(rich, 0), HundiHall.RAIDED);
        x.pass(1);
        check.due("720 hours", x.brokerOf(rich, 0), HundiHall.GOOD);
        check.due("the later one", x.brokerOf(1, 0), HundiHall.RAIDED);
        check.due("again", x.raid(rich), 0);
        x.pass(1);
        check.due("the later one", x.brokerOf(1, 0), HundiHall.GOOD);
        check.due("the one raided again", x.brokerOf(rich, 0), HundiHall.RAIDED);
        check.due("inquiry then", x.inquiry(), 1 + 2 + 8 + 16);
        HundiHall y = Halls.chain(3, 100);
        y.raid(1);
        check.due("no way by it", Halls.wayText(y, 0, 2, 1), "");
        check.due("no way from it", Halls.wayText(y, 1, 2, 1), "");
        check.due("no way to it", Halls.wayText(y, 0, 1, 1), "");
        y.pass(500);
        y.pass(220);
        check.due("a way by it again", Halls.wayText(y, 0, 2, 1), "0-1-2");
    }

    /** 0 to 1, from there by 2, 3 or 5 to 4; the order has come to 1. */
    private static HundiHall fork() {
        HundiHall x = new HundiHall();
        int[] rates = {0, 0, 10, 10, 5, 11};
        for (int i = 0; i < 6; i++) {
            x.broker(0, 0, rates[i]);
        }
        x.trust(1, 0, 10000, false);
        int[] middle = {2, 3, 5};
        for (int m : middle) {
            x.trust(m, 1, 10000, false);
            x.trust(4, m, 10000, false);
        }
        x.order(0, 4, 1000, 0, 0);
        x.pass(1);
        return x;
    }

    private static void newWays() {
        check.part("6, 7 new ways");
        HundiHall x = fork();
        check.due("way", Halls.wayTextOf(x, 0), "0-1-2-4");
        check.due("given", x.orderOf(0, 2), 1015);
        x.raid(2);
        check.due("as much", Halls.wayTextOf(x, 0), "0-1-3-4");
        check.due("state", x.orderOf(0, 0), HundiHall.ON_ITS_WAY);
        check.due("place", x.orderOf(0, 3), 1);
        check.due("given as before", x.orderOf(0, 2), 1015);
        check.due("debt to the old one", x.debt(1, 2, false), 0);
        check.due("old debt behind", x.debt(2, 4, false), 0);
        check.due("old debt behind by the book", x.debt(2, 4, true), 0);
        check.due("debt to the new one", x.debt(1, 3, false), 1015);
        check.due("new debt behind", x.debt(3, 4, false), 1005);
        check.due("who owes knows", x.debt(3, 4, true), 1005);
        check.due("the other one does not", x.debt(3, 1, true), 0);
        x.pass(1);
        check.due("then it does", x.debt(3, 1, true), -1015);
        x.pass(1);
        check.due("and it comes", x.orderOf(0, 0), HundiHall.HERE);
        HundiHall y = fork();
        y.rate(3, 20);
        y.raid(2);
        check.due("by the dearer one no more than one", Halls.wayTextOf(y, 0), "0-1-2-4");
        check.due("both are dearer", y.orderOf(0, 0), HundiHall.GOES_BACK);
        check.due("place as it was", y.orderOf(0, 3), 1);
        check.due("all debts", y.debt(0, 1, false) + y.debt(1, 2, false) + y.debt(2, 4, false), 0);
        check.due("book of 0", y.debt(0, 1, true), 0);
        check.due("book of 1", y.debt(1, 0, true), 0);
        check.due("book of 1 on 2", y.debt(1, 2, true), 0);
        check.due("book of 2", y.debt(2, 1, true), 0);
        y.pass(1);
        check.due("given back", y.orderOf(0, 0), HundiHall.BACK);
        feesTogether();
        withoutThoseAhead();
        takenBackFirst();
        byRisingNumbers();
        holderNotGood();
        longerRest();
    }

    private static void feesTogether() {
        HundiHall x = fork();
        x.rate(3, 14);
        x.rate(4, 0);
        x.rate(5, 16);
        x.rate(0, 100);
        x.rate(1, 100);
        x.breakWord(2);
        check.due("together less", Halls.wayTextOf(x, 0), "0-1-3-4");
        check.due("debt", x.debt(1, 3, false), 1014);
        check.due("debt to the last one", x.debt(3, 4, false), 1000);
        x.rate(5, 15);
        x.raid(3);
        check.due("more than what the new way cost", x.orderOf(0, 0), HundiHall.GOES_BACK);
        check.due("way as it was last", Halls.wayTextOf(x, 0), "0-1-3-4");
        check.due("debt ahead", x.debt(0, 1, false), 0);
        HundiHall y = fork();
        y.rate(3, 14);
        y.rate(4, 0);
        y.rate(5, 13);
        y.raid(2);
        check.due("the cheapest one of now", Halls.wayTextOf(y, 0), "0-1-5-4");
        HundiHall z = fork();
        z.rate(3, 10);
        z.rate(4, 6);
        z.raid(2);
        check.due("the last one's fee counts", z.orderOf(0, 0), HundiHall.GOES_BACK);
    }

    private static HundiHall withWayBack(int hours) {
        HundiHall x = Halls.chain(4, 1000);
        x.order(0, 3, 100, 0, 0);
        if (hours > 0) {
            x.pass(hours);
        }
        x.trust(3, 0, 1000, false);
        x.trust(0, 1, 1000, false);
        x.raid(2);
        return x;
    }

    private static void withoutThoseAhead() {
        HundiHall x = withWayBack(1);
        check.due("not by one ahead", x.orderOf(0, 0), HundiHall.GOES_BACK);
        HundiHall y = withWayBack(0);
        check.due("from the first one", Halls.wayTextOf(y, 0), "0-3");
        check.due("debt", y.debt(0, 3, false), 100);
        check.due("no debt", y.debt(0, 1, false), 0);
        y.pass(1);
        check.due("comes sooner", y.orderOf(0, 0), HundiHall.HERE);
    }

    private static void takenBackFirst() {
        HundiHall x = Halls.chain(4, 100);
        x.trust(3, 2, 0, false);
        x.trust(3, 1, 100, false);
        int last = x.broker(0, 0, 0);
        x.trust(last, 2, 100, false);
        x.trust(last, 3, 100, false);
        x.order(0, last, 100, 0, 0);
        check.due("way", Halls.wayTextOf(x, 0), "0-1-2-4");
        x.raid(2);
        check.due("by the same step again", Halls.wayTextOf(x, 0), "0-1-3-4");
        check.due("debt of that step", x.debt(0, 1, false), 100);
    }

    private static void byRisingNumbers() {
        HundiHall x = new HundiHall();
        for (int i = 0; i < 4; i++) {
            x.broker(0, 0, 0);
        }
        for (int i = 1; i < 3; i++) {
            x.trust(i, 0, 1000, false);
            x.trust(3, i, 1000, false);
        }
        x.order(0, 3, 90, 0, 0);
        x.order(0, 3, 80, 0, 0);
        x.order(0, 3, 70, 0, 0);
        x.trust(3, 2, 165, false);
        x.raid(1);
        check.due("first", Halls.wayTextOf(x, 0) + " " + x.orderOf(0, 0), "0-2-3 0");
        check.due("second", Halls.wayTextOf(x, 1) + " " + x.orderOf(1, 0), "0-1-3 3");
        check.due("third", Halls.wayTextOf(x, 2) + " " + x.orderOf(2, 0), "0-2-3 0");
        check.due("debt", x.debt(2, 3, false), 160);
    }

    private static void holderNotGood() {
        HundiHall x = fork();
        x.raid(1);
        check.due("goes on", x.orderOf(0, 0), HundiHall.ON_ITS_WAY);
        x.raid(2);
        check.due("no new way from a RAIDED one", x.orderOf(0, 0), HundiHall.GOES_BACK);
        HundiHall y = fork();
        y.raid(4);
        check.due("no new way to a RAIDED one", y.orderOf(0, 0), HundiHall.GOES_BACK);
        HundiHall z = fork();
        z.raid(3);
        check.due("not on its way", Halls.wayTextOf(z, 0) + " " + z.orderOf(0, 0), "0-1-2-4 0");
        HundiHall w = fork();
        w.pass(1);
        w.raid(2);
        check.due("the message has come there", w.orderOf(0, 0), HundiHall.ON_ITS_WAY);
    }

    private static void longerRest() {
        HundiHall x = new HundiHall();
        for (int i = 0; i < 12; i++) {
            x.broker(0, 0, 0);
        }
        for (int i = 2; i < 12; i++) {
            x.trust(i, i - 1, 1000, false);
        }
        x.trust(2, 0, 1000, false);
        x.trust(11, 1, 1000, false);
        x.trust(1, 0, 1000, false);
        x.order(0, 11, 100, 0, 0);
        check.due("way", Halls.wayTextOf(x, 0), "0-1-11");
        x.raid(1);
        check.due("longer way", Halls.wayTextOf(x, 0), "0-2-3-4-5-6-7-8-9-10-11");
        x.pass(9);
        check.due("not yet", x.orderOf(0, 0), HundiHall.ON_ITS_WAY);
        x.pass(1);
        check.due("HERE", x.orderOf(0, 0), HundiHall.HERE);
        check.due("place", x.orderOf(0, 3), 10);
    }

    private static void orders() {
        check.part("8 order");
        HundiHall x = Halls.chain(3, 1000000);
        x.rate(0, 10);
        x.rate(1, 20);
        x.rate(2, 30);
        check.dueThrow(Check.INDEX, "first 3", () -> x.order(3, 0, 1, 0, 0));
        check.dueThrow(Check.INDEX, "first -1", () -> x.order(-1, 0, 1, 0, 0));
        check.dueThrow(Check.INDEX, "last 3", () -> x.order(0, 3, 1, 0, 0));
        check.dueThrow(Check.INDEX, "last MAX", () -> x.order(0, MAX, 1, 0, 0));
        check.dueThrow(Check.INDEX, "name 20", () -> x.order(0, 2, 1, 20, 0));
        check.dueThrow(Check.INDEX, "name -1", () -> x.order(0, 2, 1, -1, 0));
        check.dueThrow(Check.INDEX, "name 20, all wrong", () -> x.order(0, 0, 0, 20, -1));
        check.dueThrow(Check.INDEX, "both 3", () -> x.order(3, 3, 0, 0, -1));
        check.dueThrow(Check.ARGUMENT, "both the same", () -> x.order(1, 1, 1, 0, 0));
        check.dueThrow(Check.ARGUMENT, "amount 0", () -> x.order(0, 2, 0, 0, 0));
        check.dueThrow(Check.ARGUMENT, "amount 1000001", () -> x.order(0, 2, 1000001, 0, 0));
        check.dueThrow(Check.ARGUMENT, "code -1", () -> x.order(0, 2, 1, 0, -1));
        check.dueThrow(Check.ARGUMENT, "code 10000", () -> x.order(0, 2, 1, 0, 10000));
        check.dueThrow(Check.STATE, "no way", () -> x.order(2, 0, 1, 0, 0));
        check.dueThrow(Check.ARGUMENT, "no way, code 10000", () -> x.order(2, 0, 1, 0, 10000));
        check.due("order", x.order(0, 2, 1000, 19, 9999), 0);
        check.due("state", x.orderOf(0, 0), HundiHall.ON_ITS_WAY);
        check.due("amount", x.orderOf(0, 1), 1000);
        check.due("given", x.orderOf(0, 2), 1060);
        check.due("place", x.orderOf(0, 3), 0);
        check.due("false codes", x.orderOf(0, 4), 0);
        check.due("hour", x.orderOf(0, 5), 0);
        check.due("cash of the first one", x.brokerOf(0, 1), 1060);
        check.due("cash of the next one", x.brokerOf(1, 1), 0);
        check.due("debt of the first one", x.debt(0, 1, false), 1050);
        check.due("debt of the next one", x.debt(1, 2, false), 1030);
        check.due("no debt", x.debt(0, 2, false), 0);
        x.pass(7);
        x.list(4);
        check.dueThrow(Check.STATE, "listed name", () -> x.order(0, 2, 1, 4, 0));
        check.due("another name", x.order(0, 2, 1, 5, 0), 1);
        check.due("hour", x.orderOf(1, 5), 7);
        x.list(4);
        for (int i = 2; i < 40; i++) {
            check.due("order", x.order(0, 1, 1, 4, i), i);
        }
        check.dueThrow(Check.STATE, "forty-first", () -> x.order(0, 1, 1, 4, 0));
        check.dueThrow(Check.ARGUMENT, "forty-first, amount 0", () -> x.order(0, 1, 0, 4, 0));
        check.dueThrow(Check.INDEX, "forty-first, name 20", () -> x.order(0, 1, 1, 20, 0));
        check.dueThrow(Check.INDEX, "orderOf(40, 0)", () -> x.orderOf(40, 0));
        check.due("given in all", x.sum(0), 1060 + 39);
    }

    private static void fetching() {
        check.part("9 fetch");
        HundiHall x = Halls.chain(3, 1000);
        check.dueThrow(Check.INDEX, "no order", () -> x.fetch(0, 0));
        x.order(0, 2, 100, 0, 77);
        check.dueThrow(Check.INDEX, "order 1, code -1", () -> x.fetch(1, -1));
        check.dueThrow(Check.INDEX, "order -1", () -> x.fetch(-1, 77));
        check.dueThrow(Check.ARGUMENT, "code -1", () -> x.fetch(0, -1));
        check.dueThrow(Check.ARGUMENT, "code 10000", () -> x.fetch(0, 10000));
        x.trust(2, 0, 1000, false);
        int rich = x.broker(0, 10000, 0);
        x.courier(rich, 2, 99, 2);
        check.dueThrow(Check.STATE, "not HERE", () -> x.fetch(0, 77));
        x.pass(2);
        check.dueThrow(Check.STATE, "cash 99", () -> x.fetch(0, 77));
        check.dueThrow(Check.STATE, "cash 99, false code", () -> x.fetch(0, 78));
        check.due("false code does not count then", x.orderOf(0, 4), 0);
        x.courier(rich, 2, 1, 1);
        x.pass(1);
        check.due("false code", x.fetch(0, 78), HundiHall.HERE);
        check.due("false code again", x.fetch(0, 0), HundiHall.HERE);
        check.due("two", x.orderOf(0, 4), 2);
        check.due("right code", x.fetch(0, 77), HundiHall.PAID);
        check.due("cash", x.brokerOf(2, 1), 0);
        check.due("paid out", x.sum(1), 100);
        check.due("debt stays", x.debt(1, 2, false), 100);
        x.courier(rich, 2, 500, 1);
        x.pass(1);
        check.dueThrow(Check.STATE, "twice", () -> x.fetch(0, 77));
        x.order(1, 2, 50, 0, 3);
        x.pass(1);
        Halls.fetchFalse(x, 1, 4, 2);
        check.due("third false code", x.fetch(1, 5), HundiHall.GOES_BACK);
        check.due("three", x.orderOf(1, 4), 3);
        check.due("debt taken back", x.debt(1, 2, false), 100);
        check.due("cash of the last one", x.brokerOf(2, 1), 500);
        check.dueThrow(Check.STATE, "right code too late", () -> x.fetch(1, 3));
        x.order(1, 2, 50, 0, 3);
        x.pass(1);
        x.raid(2);
        check.dueThrow(Check.STATE, "last one RAIDED", () -> x.fetch(2, 3));
        HundiHall y = Halls.chain(2, 1000);
        int giver = y.broker(0, 100, 0);
        y.order(0, 1, 10, 0, 0);
        y.courier(giver, 1, 100, 1);
        y.pass(1);
        y.breakWord(1);
        check.dueThrow(Check.STATE, "last one BROKEN", () -> y.fetch(0, 0));
    }

    private static void hours() {
        check.part("10 pass");
        HundiHall x = Halls.chain(4, 1000);
        check.dueThrow(Check.ARGUMENT, "pass(0)", () -> x.pass(0));
        check.dueThrow(Check.ARGUMENT, "pass(-1)", () -> x.pass(-1));
        check.dueThrow(Check.ARGUMENT, "pass(501)", () -> x.pass(501));
        check.dueThrow(Check.ARGUMENT, "pass(MAX)", () -> x.pass(MAX));
        check.due("pass(500)", x.pass(500), 500);
        check.due("pass(1)", x.pass(1), 501);
        x.order(0, 3, 10, 0, 0);
        x.order(0, 1, 10, 0, 0);
        x.pass(1);
        check.due("place", x.orderOf(0, 3), 1);
        check.due("ON_ITS_WAY", x.orderOf(0, 0), HundiHall.ON_ITS_WAY);
        check.due("HERE", x.orderOf(1, 0), HundiHall.HERE);
        x.pass(2);
        check.due("place", x.orderOf(0, 3), 3);
        check.due("HERE too", x.orderOf(0, 0), HundiHall.HERE);
        x.pass(5);
        check.due("place as the last one's", x.orderOf(0, 3), 3);
        raidOverAheadOfGivingBack();
        couriersBehindGivingBack();
    }

    private static void raidOverAheadOfGivingBack() {
        HundiHall x = Halls.chain(2, 1000);
        int rich = x.broker(0, 1000, 0);
        x.order(0, 1, 100, 0, 0);
        x.raid(0);
        x.courier(rich, 0, 100, 300);
        x.pass(240);
        check.due("too old", x.orderOf(0, 0), HundiHall.GOES_BACK);
        x.pass(479);
        check.due("first one RAIDED", x.orderOf(0, 0), HundiHall.GOES_BACK);
        check.due("cash is there", x.brokerOf(0, 1), 100);
        x.pass(1);
        check.due("in the hour in which the raid is over", x.orderOf(0, 0), HundiHall.BACK);
        check.due("cash", x.brokerOf(0, 1), 0);
    }

    private static void couriersBehindGivingBack() {
        HundiHall x = Halls.chain(2, 1000);
        int rich = x.broker(0, 1000, 0);
        x.order(0, 1, 100, 0, 0);
        x.order(0, 1, 50, 0, 0);
        x.order(0, 1, 40, 0, 0);
        x.courier(0, rich, 190, 500);
        x.pass(240);
        check.due("no cash", x.orderOf(0, 0), HundiHall.GOES_BACK);
        x.courier(rich, 0, 60, 10);
        x.pass(10);
        check.due("cash comes behind that", x.orderOf(1, 0), HundiHall.GOES_BACK);
        x.pass(1);
        check.due("too much", x.orderOf(0, 0), HundiHall.GOES_BACK);
        check.due("the next one", x.orderOf(1, 0), HundiHall.BACK);
        check.due("not enough is left", x.orderOf(2, 0), HundiHall.GOES_BACK);
        check.due("cash", x.brokerOf(0, 1), 10);
        x.courier(rich, 0, 90, 1);
        x.pass(2);
        check.due("lower number first", x.orderOf(0, 0), HundiHall.BACK);
        check.due("then none is left", x.orderOf(2, 0), HundiHall.GOES_BACK);
        check.due("given back", x.sum(2), 150);
    }

    private static void goingBack() {
        check.part("9, 10 going back");
        HundiHall x = Halls.chain(3, 1000);
        x.rate(1, 10);
        x.pass(3);
        x.order(0, 2, 100, 0, 0);
        x.pass(5);
        x.pay(0, 1, 61);
        x.pass(234);
        check.due("239 hours", x.orderOf(0, 0), HundiHall.HERE);
        check.due("cash", x.brokerOf(0, 1), 40);
        x.pass(1);
        check.due("240 hours", x.orderOf(0, 0), HundiHall.GOES_BACK);
        check.due("debt the other way", x.debt(0, 1, false), -61);
        check.due("by its book", x.debt(0, 1, true), -61);
        check.due("by the other one's", x.debt(1, 0, true), 61);
        check.due("debt taken back", x.debt(1, 2, false), 0);
        check.due("place", x.orderOf(0, 3), 2);
        check.due("nothing was given back", x.sum(2), 0);
        x.pay(1, 0, 61);
        x.pass(1);
        check.due("given back", x.orderOf(0, 0), HundiHall.BACK);
        check.due("what was given", x.sum(2), 101);
        check.due("cash of the first one", x.brokerOf(0, 1), 0);
        x.pass(500);
        check.due("once", x.sum(2), 101);
        HundiHall y = Halls.chain(2, 1000);
        y.order(0, 1, 100, 0, 0);
        y.pass(240);
        check.due("in the hour in which it became too old", y.orderOf(0, 0), HundiHall.BACK);
        check.due("cash", y.brokerOf(0, 1), 0);
        check.dueThrow(Check.STATE, "fetch of what is BACK", () -> y.fetch(0, 0));
        HundiHall z = Halls.chain(2, 1000);
        int rich = z.broker(0, 1000, 0);
        z.order(0, 1, 100, 0, 0);
        z.courier(rich, 1, 100, 1);
        z.courier(0, rich, 100, 500);
        z.pass(1);
        Halls.fetchFalse(z, 0, 1, 3);
        z.breakWord(0);
        z.pass(1);
        check.due("LOST while it GOES_BACK", z.orderOf(0, 0), HundiHall.LOST);
    }

    private static void pays() {
        check.part("11 pay");
        HundiHall x = Halls.chain(3, 1000);
        x.order(0, 1, 300, 0, 0);
        check.dueThrow(Check.INDEX, "pay(3, 0)", () -> x.pay(3, 0, 1));
        check.dueThrow(Check.INDEX, "pay(0, 3)", () -> x.pay(0, 3, 1));
        check.dueThrow(Check.INDEX, "pay(-1, -1, 0)", () -> x.pay(-1, -1, 0));
        check.dueThrow(Check.ARGUMENT, "pay(0, 0)", () -> x.pay(0, 0, 1));
        check.dueThrow(Check.ARGUMENT, "amount 0", () -> x.pay(0, 1, 0));
        check.dueThrow(Check.ARGUMENT, "amount 1000001", () -> x.pay(0, 1, 1000001));
        check.dueThrow(Check.ARGUMENT, "amount MIN", () -> x.pay(0, 1, MIN));
        check.dueThrow(Check.STATE, "more than the debt", () -> x.pay(0, 1, 301));
        check.dueThrow(Check.STATE, "who is owed", () -> x.pay(1, 0, 1));
        check.due("pay", x.pay(0, 1, 100), 200);
        check.due("cash", x.brokerOf(0, 1), 200);
        check.due("cash of the other one", x.brokerOf(1, 1), 100);
        check.due("book", x.debt(0, 1, true), 200);
        check.due("book of the other one, without the order", x.debt(1, 0, true), 100);
        x.courier(0, 2, 150, 500);
        check.dueThrow(Check.STATE, "more than the cash", () -> x.pay(0, 1, 51));
        check.due("all the cash", x.pay(0, 1, 50), 150);
        x.pass(1);
        check.due("book of the other one", x.debt(1, 0, true), -150);
        int rich = x.broker(0, 1000, 0);
        x.courier(rich, 0, 500, 1);
        x.pass(1);
        x.raid(1);
        check.dueThrow(Check.STATE, "other one RAIDED", () -> x.pay(0, 1, 1));
        x.breakWord(1);
        check.dueThrow(Check.STATE, "other one BROKEN", () -> x.pay(0, 1, 1));
        check.due("the debt stays", x.debt(0, 1, false), 150);
        check.dueThrow(Check.STATE, "more than the debt, with the cash", () -> x.pay(rich, 0, 1));
        check.due("as far as the debt goes", x.pay(0, rich, 500), 0);
        x.courier(rich, 2, 100, 1);
        x.pass(1);
        x.raid(2);
        check.dueThrow(Check.STATE, "one RAIDED", () -> x.pay(2, rich, 1));
    }

    private static void delivers() {
        check.part("12 deliver");
        HundiHall x = Halls.chain(3, 1000);
        x.order(0, 1, 300, 0, 0);
        check.dueThrow(Check.INDEX, "deliver(3, 0)", () -> x.deliver(3, 0, 1));
        check.dueThrow(Check.INDEX, "deliver(0, 3)", () -> x.deliver(0, 3, 1));
        check.dueThrow(Check.INDEX, "deliver(3, 3, 0)", () -> x.deliver(3, 3, 0));
        check.dueThrow(Check.ARGUMENT, "deliver(0, 0)", () -> x.deliver(0, 0, 1));
        check.dueThrow(Check.ARGUMENT, "value 0", () -> x.deliver(0, 1, 0));
        check.dueThrow(Check.ARGUMENT, "value 1000001", () -> x.deliver(0, 1, 1000001));
        check.dueThrow(Check.STATE, "more than the debt", () -> x.deliver(0, 1, 301));
        check.dueThrow(Check.STATE, "who is owed", () -> x.deliver(1, 0, 1));
        check.due("deliver", x.deliver(0, 1, 100), 200);
        check.due("no cash of it", x.brokerOf(0, 1), 300);
        check.due("no cash of the other one", x.brokerOf(1, 1), 0);
        check.due("book", x.debt(0, 1, true), 200);
        check.due("book of the other one", x.debt(1, 0, true), 100);
        x.pass(1);
        x.raid(0);
        check.due("without cash, RAIDED", x.deliver(0, 1, 50), 150);
        x.raid(1);
        check.due("both RAIDED", x.deliver(0, 1, 50), 100);
        x.breakWord(1);
        check.dueThrow(Check.STATE, "other one BROKEN", () -> x.deliver(0, 1, 1));
        HundiHall y = Halls.chain(2, 1000);
        y.order(0, 1, 30, 0, 0);
        y.pass(1);
        check.due("all", y.deliver(0, 1, 20), 10);
        y.breakWord(0);
        check.dueThrow(Check.STATE, "one BROKEN", () -> y.deliver(0, 1, 1));
        check.due("the debt stays", y.debt(0, 1, false), 10);
    }

    private static void couriers() {
        check.part("13 courier");
        HundiHall x = Halls.chain(2, 1000);
        int rich = x.broker(0, 1000, 0);
        x.order(0, 1, 300, 0, 0);
        check.dueThrow(Check.INDEX, "courier(3, 0)", () -> x.courier(3, 0, 1, 1));
        check.dueThrow(Check.INDEX, "courier(0, 3)", () -> x.courier(0, 3, 1, 1));
        check.dueThrow(Check.INDEX, "courier(0, -1, 0)", () -> x.courier(0, -1, 0, 0));
        check.dueThrow(Check.ARGUMENT, "courier(0, 0)", () -> x.courier(0, 0, 1, 1));
        check.dueThrow(Check.ARGUMENT, "amount 0", () -> x.courier(0, 1, 0, 1));
        check.dueThrow(Check.ARGUMENT, "amount 1000001", () -> x.courier(0, 1, 1000001, 1));
        check.dueThrow(Check.ARGUMENT, "hours 0", () -> x.courier(0, 1, 1, 0));
        check.dueThrow(Check.ARGUMENT, "hours 501", () -> x.courier(0, 1, 1, 501));
        check.dueThrow(Check.STATE, "less cash", () -> x.courier(0, 1, 301, 1));
        check.due("courier", x.courier(0, 1, 200, 2), 0);
        check.due("cash", x.brokerOf(0, 1), 100);
        check.due("the debt is not yet less", x.debt(0, 1, false), 300);
        check.due("on the road", x.sum(5), 200);
        x.pass(1);
        check.due("not yet there", x.brokerOf(1, 1), 0);
        x.pass(1);
        check.due("there", x.brokerOf(1, 1), 200);
        check.due("the debt is less", x.debt(0, 1, false), 100);
        check.due("book", x.debt(0, 1, true), 100);
        check.due("book of the other one", x.debt(1, 0, true), -100);
        check.due("on the road no more", x.sum(5), 0);
        check.due("more than the debt", x.courier(1, 0, 200, 100), 1);
        check.due("the last coin", x.courier(0, 1, 100, 1), 2);
        x.raid(1);
        x.pass(100);
        check.due("the other one owes then", x.debt(0, 1, false), 200);
        check.due("to a RAIDED one", x.brokerOf(1, 1), 100);
        check.dueThrow(Check.STATE, "from a RAIDED one", () -> x.courier(1, 0, 1, 1));
        x.breakWord(1);
        check.dueThrow(Check.STATE, "from a BROKEN one", () -> x.courier(1, 0, 1, 1));
        check.due("to a BROKEN one", x.courier(rich, 1, 1, 1), 3);
        x.breakWord(rich);
        x.pass(1);
        check.due("from one that broke the word since", x.brokerOf(1, 1), 101);
        for (int i = 4; i < 40; i++) {
            check.due("courier", x.courier(0, rich, 1, 500), i);
        }
        check.dueThrow(Check.STATE, "forty-first", () -> x.courier(0, rich, 1, 1));
        check.dueThrow(Check.ARGUMENT, "forty-first, amount 0", () -> x.courier(0, rich, 0, 1));
        check.due("on the road", x.sum(5), 36);
    }

    private static void robs() {
        check.part("14 rob");
        HundiHall x = Halls.chain(2, 1000);
        check.dueThrow(Check.INDEX, "no courier", () -> x.rob(0));
        x.order(0, 1, 300, 0, 0);
        x.courier(0, 1, 100, 2);
        x.courier(0, 1, 50, 3);
        check.dueThrow(Check.INDEX, "rob(2)", () -> x.rob(2));
        check.dueThrow(Check.INDEX, "rob(-1)", () -> x.rob(-1));
        x.pass(1);
        check.due("rob(0)", x.rob(0), 100);
        check.dueThrow(Check.STATE, "twice", () -> x.rob(0));
        check.due("lost", x.sum(3), 100);
        check.due("on the road", x.sum(5), 50);
        x.pass(2);
        check.due("the debt", x.debt(0, 1, false), 250);
        check.due("cash", x.brokerOf(0, 1), 150);
        check.due("cash of the other one", x.brokerOf(1, 1), 50);
        check.dueThrow(Check.STATE, "has come", () -> x.rob(1));
        check.due("lost in all", x.sum(3), 100);
    }

    private static void rings() {
        check.part("15 ring");
        HundiHall x = Halls.richOnes(6);
        Halls.owe(x, 0, 1, 10);
        Halls.owe(x, 1, 2, 12);
        Halls.owe(x, 2, 0, 14);
        Halls.owe(x, 3, 5, 9);
        Halls.owe(x, 5, 4, 8);
        Halls.owe(x, 4, 3, 7);
        check.due("nothing yet", x.ring(), 0);
        x.pass(1);
        check.due("two rings", x.ring(), 17);
        check.due("0 to 1", x.debt(0, 1, false), 0);
        check.due("1 to 2", x.debt(1, 2, false), 2);
        check.due("2 to 0", x.debt(2, 0, false), 4);
        check.due("3 to 5", x.debt(3, 5, false), 2);
        check.due("5 to 4", x.debt(5, 4, false), 1);
        check.due("4 to 3", x.debt(4, 3, false), 0);
        check.due("book", x.debt(1, 2, true), 2);
        check.due("book of the other one", x.debt(2, 1, true), -2);
        check.due("again", x.ring(), 0);
        check.due("no cash is moved", x.brokerOf(1, 1), 1000000 - 10 + 12);
        HundiHall y = Halls.richOnes(4);
        Halls.owe(y, 0, 1, 100);
        Halls.owe(y, 1, 2, 70);
        Halls.owe(y, 2, 0, 80);
        Halls.owe(y, 1, 3, 60);
        Halls.owe(y, 3, 0, 50);
        y.pass(1);
        check.due("sharing a debt", y.ring(), 100);
        check.due("by the lower one first", y.debt(1, 2, false), 0);
        check.due("the rest by the other one", y.debt(1, 3, false), 30);
        check.due("the least", y.debt(3, 0, false), 20);
        HundiHall z = Halls.richOnes(4);
        Halls.owe(z, 0, 1, 5);
        Halls.owe(z, 1, 2, 5);
        Halls.owe(z, 2, 3, 5);
        Halls.owe(z, 3, 0, 5);
        Halls.owe(z, 2, 1, 1);
        z.pass(1);
        check.due("four in a ring", z.ring(), 0);
        Halls.owe(z, 0, 2, 3);
        z.pass(1);
        check.due("three of them", z.ring(), 3);
        check.due("3 to 0", z.debt(3, 0, false), 2);
        check.due("0 to 1 stays", z.debt(0, 1, false), 5);
        HundiHall w = Halls.richOnes(3);
        Halls.owe(w, 0, 1, 1000000);
        Halls.owe(w, 1, 2, 1000000);
        Halls.owe(w, 2, 0, 1000000);
        w.pass(1);
        w.raid(0);
        w.breakWord(1);
        check.due("whatever they are", w.ring(), 1000000);
        ringsUnknown();
        HundiHall v = Halls.richOnes(3);
        Halls.owe(v, 2, 1, 1);
        Halls.owe(v, 1, 0, 2);
        Halls.owe(v, 0, 2, 3);
        v.pass(1);
        check.due("a ring of 1", v.ring(), 1);
        check.due("the other way round", v.debt(2, 1, false), 0);
    }

    private static void ringsUnknown() {
        HundiHall x = Halls.chain(3, 1000);
        x.trust(0, 2, 1000, false);
        x.order(0, 1, 30, 0, 0);
        x.order(1, 2, 20, 0, 0);
        x.order(2, 0, 10, 0, 0);
        check.due("by debts, not by books", x.ring(), 10);
        check.due("both know it at once", x.debt(1, 0, true), 10);
        check.due("who owes", x.debt(0, 1, true), 20);
        x.pass(1);
        check.due("then the rest", x.debt(1, 0, true), -20);
    }

    private static void laws() {
        check.part("16 law");
        HundiHall x = Halls.chain(3, 1000000);
        check.dueThrow(Check.INDEX, "town 8", () -> x.law(8, 0));
        check.dueThrow(Check.INDEX, "town -1", () -> x.law(-1, 0));
        check.dueThrow(Check.INDEX, "town 8, bound -1", () -> x.law(8, -1));
        check.dueThrow(Check.ARGUMENT, "bound -1", () -> x.law(0, -1));
        check.dueThrow(Check.ARGUMENT, "bound 1000001", () -> x.law(0, 1000001));
        x.order(0, 1, 1000000, 0, 0);
        check.due("none is above it at first", x.law(0, 1000), 0);
        x.deliver(0, 1, 1000000);
        x.order(0, 2, 1000, 0, 0);
        check.due("at the bound", x.law(0, 1000), 0);
        x.order(0, 2, 1001, 0, 0);
        x.order(1, 2, 5000, 0, 0);
        check.due("above the bound", x.law(0, 0), 1);
        check.due("another town", x.law(1, 0), 0);
        check.due("the last one's town", x.law(2, 0), 0);
        x.order(0, 2, 1, 0, 0);
        x.order(1, 2, 1, 0, 0);
        check.due("bound 0", x.law(0, 1000000), 2);
        check.due("those given ahead do not count", x.law(1, 0), 1);
        check.dueThrow(Check.STATE, "no way", () -> x.order(2, 0, 100000, 0, 0));
        check.due("refused ones are not told", x.law(2, 0), 0);
        x.rate(0, 100);
        x.law(0, 10);
        x.order(0, 2, 10, 0, 0);
        check.due("the amount without fees", x.law(0, 10), 2);
    }

    private static void lists() {
        check.part("17 list");
        HundiHall x = Halls.chain(2, 1000000);
        check.dueThrow(Check.INDEX, "name 20", () -> x.list(20) ? 1 : 0);
        check.dueThrow(Check.INDEX, "name -1", () -> x.list(-1) ? 1 : 0);
        check.due("list(0)", x.list(0), true);
        check.due("list(19)", x.list(19), true);
        check.dueThrow(Check.STATE, "name 0", () -> x.order(0, 1, 1, 0, 0));
        check.dueThrow(Check.STATE, "name 19", () -> x.order(0, 1, 1, 19, 0));
        check.due("name 1", x.order(0, 1, 1, 1, 0), 0);
        check.due("list(1) with an order", x.list(1), true);
        check.due("list(0) again", x.list(0), false);
        check.due("name 0 again", x.order(0, 1, 1, 0, 0), 1);
        x.pass(1);
        int rich = x.broker(0, 1000, 0);
        x.courier(rich, 1, 1, 1);
        x.pass(1);
        check.due("given ahead of the listing", x.fetch(0, 0), HundiHall.PAID);
    }

    private static void brokerAnswers() {
        check.part("18 brokerOf");
        HundiHall x = Halls.chain(3, 1000);
        x.rate(1, 10);
        check.dueThrow(Check.INDEX, "brokerOf(3, 0)", () -> x.brokerOf(3, 0));
        check.dueThrow(Check.INDEX, "brokerOf(3, 9)", () -> x.brokerOf(3, 9));
        check.dueThrow(Check.INDEX, "brokerOf(-1, 0)", () -> x.brokerOf(-1, 0));
        check.dueThrow(Check.ARGUMENT, "what 4", () -> x.brokerOf(0, 4));
        check.dueThrow(Check.ARGUMENT, "what -1", () -> x.brokerOf(0, -1));
        x.order(0, 2, 100, 0, 0);
        check.due("state", x.brokerOf(2, 0), HundiHall.GOOD);
        check.due("cash", x.brokerOf(0, 1), 101);
        check.due("town", x.brokerOf(2, 2), 2);
        check.due("worth of the first one", x.brokerOf(0, 3), 0);
        check.due("worth of the one between", x.brokerOf(1, 3), 1);
        check.due("worth of the last one", x.brokerOf(2, 3), 100);
        x.raid(0);
        check.due("worth below 0", x.brokerOf(0, 3), -101);
    }

    private static void debts() {
        check.part("19 debt");
        HundiHall x = Halls.chain(4, 1000);
        check.dueThrow(Check.INDEX, "debt(4, 0)", () -> x.debt(4, 0, false));
        check.dueThrow(Check.INDEX, "debt(0, 4)", () -> x.debt(0, 4, true));
        check.dueThrow(Check.INDEX, "debt(-1, 0)", () -> x.debt(-1, 0, false));
        check.dueThrow(Check.INDEX, "debt(0, -1)", () -> x.debt(0, -1, false));
        x.rate(3, 10);
        x.order(0, 3, 100, 0, 0);
        check.due("debt", x.debt(0, 1, false), 101);
        check.due("the other way", x.debt(1, 0, false), -101);
        check.due("of one to itself", x.debt(1, 1, false), 0);
        check.due("by the book", x.debt(1, 1, true), 0);
        check.due("who owes knows", x.debt(0, 1, true), 101);
        check.due("so does the next one", x.debt(1, 2, true), 101);
        check.due("and the one behind", x.debt(2, 3, true), 101);
        check.due("who is owed does not", x.debt(1, 0, true), 0);
        x.pass(1);
        check.due("until the message comes", x.debt(1, 0, true), -101);
        check.due("the one behind does not yet", x.debt(2, 1, true), 0);
        x.trust(0, 1, 1000, false);
        x.order(1, 0, 41, 0, 0);
        check.due("what is owed both ways is set off", x.debt(0, 1, false), 60);
        check.due("by the book of who owes now", x.debt(1, 0, true), -60);
        check.due("by the book of the other one", x.debt(0, 1, true), 101);
    }

    private static void books() {
        check.part("20 agree");
        HundiHall x = Halls.chain(4, 1000);
        check.dueThrow(Check.INDEX, "agree(4, 0)", () -> x.agree(4, 0) ? 1 : 0);
        check.dueThrow(Check.INDEX, "agree(0, 4)", () -> x.agree(0, 4) ? 1 : 0);
        check.dueThrow(Check.INDEX, "agree(-1, -1)", () -> x.agree(-1, -1) ? 1 : 0);
        check.due("at first", x.agree(0, 1), true);
        check.due("with itself", x.agree(2, 2), true);
        x.order(0, 3, 100, 0, 0);
        check.due("0, 1", x.agree(0, 1), false);
        check.due("1, 0", x.agree(1, 0), false);
        check.due("0, 2", x.agree(0, 2), true);
        x.pass(1);
        check.due("0, 1 then", x.agree(0, 1), true);
        check.due("1, 2", x.agree(1, 2), false);
        check.due("3, 2", x.agree(3, 2), false);
        x.deliver(1, 2, 40);
        check.due("of all else both know", x.debt(2, 1, true), 40);
        check.due("1, 2", x.agree(1, 2), false);
        x.raid(3);
        check.due("what is taken back ahead", x.debt(1, 0, true), 0);
        check.due("what is taken back behind", x.debt(1, 2, true), -40);
        check.due("of what it did not know", x.debt(2, 1, true), 40);
        check.due("1, 2 then", x.agree(1, 2), true);
        check.due("2, 3 then", x.agree(2, 3), true);
        HundiHall y = Halls.chain(3, 1000);
        y.order(0, 2, 100, 0, 0);
        y.pass(1);
        y.breakWord(0);
        check.due("LOST: who knew", y.debt(1, 0, true), 0);
        check.due("LOST: who owed", y.debt(1, 2, true), 0);
        check.due("LOST: who did not know", y.debt(2, 1, true), 0);
        check.due("LOST: agree", y.agree(1, 2) && y.agree(0, 1), true);
    }

    private static void ways() {
        check.part("21 way");
        HundiHall x = new HundiHall();
        int[] rates = {0, 50, 10, 10, 0};
        for (int rate : rates) {
            x.broker(0, 0, rate);
        }
        check.dueThrow(Check.INDEX, "first 5", () -> x.way(5, 0, 1, 0));
        check.dueThrow(Check.INDEX, "last 5", () -> x.way(0, 5, 1, 0));
        check.dueThrow(Check.INDEX, "first -1", () -> x.way(-1, 0, 1, 0));
        check.dueThrow(Check.INDEX, "place -1", () -> x.way(0, 1, 1, -1));
        check.dueThrow(Check.INDEX, "place MIN, all wrong", () -> x.way(0, 0, 0, MIN));
        check.dueThrow(Check.ARGUMENT, "both the same", () -> x.way(0, 0, 1, 0));
        check.dueThrow(Check.ARGUMENT, "amount 0", () -> x.way(0, 1, 0, 0));
        check.dueThrow(Check.ARGUMENT, "amount 1000001", () -> x.way(0, 1, 1000001, 0));
        check.due("no way", x.way(0, 4, 100, 0), HundiHall.NONE);
        x.trust(1, 0, 100000, false);
        x.trust(4, 1, 100000, false);
        x.trust(2, 0, 100000, false);
        x.trust(3, 2, 100000, false);
        x.trust(4, 3, 100000, false);
        check.due("least fees", Halls.wayText(x, 0, 4, 1000), "0-2-3-4");
        check.due("behind the last one", x.way(0, 4, 1000, 4), HundiHall.NONE);
        check.due("far behind", x.way(0, 4, 1000, MAX), HundiHall.NONE);
        x.rate(1, 20);
        check.due("the same fees, fewest brokers", Halls.wayText(x, 0, 4, 1000), "0-1-4");
        x.rate(1, 21);
        check.due("one more", Halls.wayText(x, 0, 4, 1000), "0-2-3-4");
        check.due("cut to the same", Halls.wayText(x, 0, 4, 40), "0-1-4");
        x.trust(4, 3, 999, false);
        check.due("trust of the last one", Halls.wayText(x, 0, 4, 1000), "0-1-4");
        x.trust(4, 1, 999, false);
        check.due("none", Halls.wayText(x, 0, 4, 1000), "");
        x.trust(4, 0, 1000, false);
        check.due("straight", Halls.wayText(x, 0, 4, 1000), "0-4");
        check.due("nothing was given", x.sum(0), 0);
        lowerBrokers();
        dearerButTrusted();
    }

    private static void lowerBrokers() {
        HundiHall x = new HundiHall();
        for (int i = 0; i < 6; i++) {
            x.broker(0, 0, 10);
        }
        int[] front = {2, 1};
        int[] behind = {3, 4};
        for (int i = 0; i < 2; i++) {
            x.trust(front[i], 5, 10000, false);
            x.trust(behind[i], front[i], 10000, false);
            x.trust(0, behind[i], 10000, false);
        }
        check.due("lower at the first unlike place", Halls.wayText(x, 5, 0, 100), "5-1-4-0");
        x.trust(3, 1, 10000, false);
        check.due("lower at the next place", Halls.wayText(x, 5, 0, 100), "5-1-3-0");
        x.trust(3, 1, 101, false);
        check.due("unless the trust ends there", Halls.wayText(x, 5, 0, 100), "5-1-4-0");
        x.trust(1, 5, 102, false);
        check.due("or ahead of it", Halls.wayText(x, 5, 0, 100), "5-2-3-0");
    }

    /** The cheap rest of a way may not be trusted; then the dear one is taken. */
    private static void dearerButTrusted() {
        HundiHall x = new HundiHall();
        int[] rates = {0, 0, 10, 30, 0};
        for (int rate : rates) {
            x.broker(0, 0, rate);
        }
        x.trust(1, 0, 1030, false);
        x.trust(2, 1, 1009, false);
        x.trust(3, 1, 1030, false);
        x.trust(4, 2, 1000, false);
        x.trust(4, 3, 1000, false);
        check.due("by the dear one", Halls.wayText(x, 0, 4, 1000), "0-1-3-4");
        x.trust(1, 0, 1029, false);
        check.due("its fees are too much", Halls.wayText(x, 0, 4, 1000), "");
        x.trust(2, 1, 1010, false);
        check.due("by the cheap one", Halls.wayText(x, 0, 4, 1000), "0-1-2-4");
    }

    private static void orderAnswers() {
        check.part("22, 23 wayOf, orderOf");
        HundiHall x = Halls.chain(3, 1000);
        check.dueThrow(Check.INDEX, "wayOf(0, 0)", () -> x.wayOf(0, 0));
        check.dueThrow(Check.INDEX, "orderOf(0, 9)", () -> x.orderOf(0, 9));
        x.order(0, 2, 100, 0, 7);
        check.dueThrow(Check.INDEX, "wayOf(1, 0)", () -> x.wayOf(1, 0));
        check.dueThrow(Check.INDEX, "wayOf(-1, 0)", () -> x.wayOf(-1, 0));
        check.dueThrow(Check.INDEX, "wayOf(0, -1)", () -> x.wayOf(0, -1));
        check.dueThrow(Check.INDEX, "orderOf(1, 0)", () -> x.orderOf(1, 0));
        check.dueThrow(Check.INDEX, "orderOf(-1, 0)", () -> x.orderOf(-1, 0));
        check.dueThrow(Check.ARGUMENT, "orderOf(0, 6)", () -> x.orderOf(0, 6));
        check.dueThrow(Check.ARGUMENT, "orderOf(0, -1)", () -> x.orderOf(0, -1));
        check.due("place 0", x.wayOf(0, 0), 0);
        check.due("place 2", x.wayOf(0, 2), 2);
        check.due("place 3", x.wayOf(0, 3), HundiHall.NONE);
        check.due("place MAX", x.wayOf(0, MAX), HundiHall.NONE);
        x.trust(2, 0, 1000, false);
        check.due("as it is", Halls.wayTextOf(x, 0), "0-1-2");
        check.due("not as it would be", Halls.wayText(x, 0, 2, 100), "0-2");
        x.pass(2);
        int rich = x.broker(0, 1000, 0);
        x.courier(rich, 2, 1000, 1);
        x.pass(1);
        Halls.fetchFalse(x, 0, 8, 3);
        x.pass(1);
        check.due("BACK", x.orderOf(0, 0), HundiHall.BACK);
        check.due("as it was last", Halls.wayTextOf(x, 0), "0-1-2");
        check.due("amount", x.orderOf(0, 1), 100);
        check.due("given", x.orderOf(0, 2), 100);
        check.due("place", x.orderOf(0, 3), 2);
        check.due("false codes", x.orderOf(0, 4), 3);
        check.due("hour", x.orderOf(0, 5), 0);
        x.order(0, 2, 30, 0, 7);
        check.due("hour of the next one", x.orderOf(1, 5), 4);
        x.pass(1);
        x.fetch(1, 7);
        check.due("PAID", x.orderOf(1, 0), HundiHall.PAID);
        x.order(0, 2, 30, 0, 7);
        x.breakWord(0);
        check.due("LOST", x.orderOf(2, 0), HundiHall.LOST);
        check.due("PAID as before", x.orderOf(1, 0), HundiHall.PAID);
        check.due("way of a LOST one", Halls.wayTextOf(x, 2), "0-2");
    }

    private static void inquiries() {
        check.part("24 inquiry");
        HundiHall x = Halls.chain(5, 1000);
        x.order(0, 1, 10, 0, 0);
        x.order(1, 2, 10, 0, 0);
        x.order(2, 3, 10, 0, 0);
        check.due("none raided", x.inquiry(), 0);
        x.raid(3);
        check.due("its book does not tell it yet", x.inquiry(), 8);
        HundiHall y = Halls.chain(5, 1000);
        y.order(0, 1, 10, 0, 0);
        y.order(1, 2, 10, 0, 0);
        y.order(2, 3, 10, 0, 0);
        y.raid(1);
        check.due("who owes tells whom, and so on", y.inquiry(), 2 + 4 + 8);
        y.pass(1);
        check.due("and whom it is owed by", y.inquiry(), 2 + 4 + 8);
        HundiHall z = Halls.chain(5, 1000);
        z.order(0, 1, 10, 0, 0);
        z.order(1, 2, 10, 0, 0);
        z.pass(1);
        z.raid(2);
        check.due("down to the lower ones", z.inquiry(), 1 + 2 + 4);
        z.deliver(1, 2, 10);
        check.due("what is settled is not told", z.inquiry(), 4);
        z.pass(500);
        z.pass(500);
        check.due("ever raided; 2 owes 1, as the order went back", z.inquiry(), 4 + 2);
        z.breakWord(4);
        check.due("a broken word is no raid", z.inquiry(), 4 + 2);
        z.breakWord(2);
        check.due("raided and broken", z.inquiry(), 4 + 2);
        z.raid(0);
        check.due("another one", z.inquiry(), 4 + 2 + 1);
        HundiHall v = Halls.chain(4, 1000);
        v.trust(3, 0, 1000, false);
        v.order(0, 2, 10, 0, 0);
        v.order(0, 3, 10, 0, 0);
        v.raid(3);
        check.due("what is taken back names nobody", v.inquiry(), 8);
        v.raid(0);
        check.due("what stands does", v.inquiry(), 8 + 1 + 2 + 4);
        HundiHall w = Halls.chain(12, 1000);
        for (int i = 0; i < 11; i++) {
            w.order(i, i + 1, 10, 0, 0);
        }
        w.pass(1);
        w.raid(11);
        check.due("all twelve", w.inquiry(), 4095);
    }

    private static void sums() {
        check.part("25 sum");
        HundiHall x = Halls.chain(3, 10000);
        int rich = x.broker(0, 1000, 0);
        x.rate(1, 10);
        check.dueThrow(Check.ARGUMENT, "what -1", () -> x.sum(-1));
        check.dueThrow(Check.ARGUMENT, "what 8", () -> x.sum(8));
        check.dueThrow(Check.ARGUMENT, "what MAX", () -> x.sum(MAX));
        x.order(0, 1, 100, 0, 1);
        x.order(0, 1, 200, 0, 1);
        x.order(0, 1, 300, 0, 1);
        x.order(0, 2, 400, 0, 1);
        check.due("given", x.sum(0), 101 + 202 + 303 + 404);
        check.due("all cash", x.sum(6), 1000 + 1010);
        x.courier(rich, 1, 700, 1);
        x.courier(rich, 1, 10, 9);
        x.courier(rich, 1, 20, 9);
        x.courier(rich, 1, 30, 9);
        check.due("carried", x.sum(5), 760);
        check.due("cash without that", x.sum(6), 2010 - 760);
        x.rob(1);
        x.rob(3);
        check.due("lost by couriers", x.sum(3), 40);
        check.due("carried then", x.sum(5), 720);
        x.pass(1);
        check.due("carried by the rest", x.sum(5), 20);
        check.due("nothing paid out yet", x.sum(1), 0);
        x.fetch(0, 1);
        x.fetch(1, 1);
        check.due("paid out", x.sum(1), 300);
        Halls.fetchFalse(x, 2, 2, 3);
        check.due("not given back yet", x.sum(2), 0);
        x.pass(1);
        check.due("given back", x.sum(2), 303);
        check.due("nothing LOST yet", x.sum(7), 0);
        x.order(0, 2, 10, 0, 1);
        x.order(1, 2, 10, 0, 1);
        x.breakWord(0);
        check.due("LOST", x.sum(7), 10);
        x.raid(1);
        check.due("seized", x.sum(4), 410);
        x.raid(rich);
        check.due("seized in all", x.sum(4), 410 + 240);
        check.due("cash that is left", x.sum(6), 1010 - 303 + 10);
        check.due("given in all", x.sum(0), 1010 + 10 + 10);
    }

    private static String all(HundiHall x, int brokers, int orders) {
        StringBuilder text = new StringBuilder();
        for (int i = 0; i < brokers; i++) {
            for (int what = 0; what < 4; what++) {
                text.append(x.brokerOf(i, what)).append(' ');
            }
            for (int j = 0; j < brokers; j++) {
                text.append(x.debt(i, j, false)).append(' ').append(x.debt(i, j, true)).append(' ');
            }
        }
        for (int i = 0; i < orders; i++) {
            for (int what = 0; what < 6; what++) {
                text.append(x.orderOf(i, what)).append(' ');
            }
            text.append(Halls.wayTextOf(x, i)).append(' ');
        }
        for (int what = 0; what < 8; what++) {
            text.append(x.sum(what)).append(' ');
        }
        return text.append(x.inquiry()).append(' ').append(x.law(0, 500)).append(' ')
                .append(Halls.wayText(x, 0, 2, 10)).toString();
    }

    private static void failedCallsChangeNothing() {
        check.part("calls that throw change nothing");
        HundiHall x = Halls.chain(3, 1000);
        x.law(0, 500);
        x.order(0, 2, 600, 0, 7);
        x.order(0, 1, 50, 0, 7);
        x.courier(0, 1, 200, 30);
        x.pass(1);
        x.raid(2);
        x.list(3);
        String before = all(x, 3, 2);
        Check.Call[] calls = {
            () -> x.broker(8, 0, 0), () -> x.broker(0, -1, 0), () -> x.broker(0, 0, 101), () -> x.rate(0, 101),
            () -> x.rate(3, 1), () -> { x.trust(1, 0, 1000001, true); return 0; }, () -> x.breakWord(3),
            () -> x.raid(2), () -> x.order(0, 2, 501, 0, 0), () -> x.order(0, 1, 501, 3, 0),
            () -> x.order(0, 1, 951, 0, 0), () -> x.order(0, 1, 501, 0, 10000), () -> x.fetch(0, 7),
            () -> x.fetch(1, 8), () -> x.fetch(1, 10000), () -> x.pass(0), () -> x.pass(501),
            () -> x.pay(0, 1, 651), () -> x.pay(0, 2, 1), () -> x.deliver(1, 0, 1), () -> x.courier(0, 1, 451, 1),
            () -> x.courier(2, 1, 1, 1), () -> x.courier(0, 1, 1, 501), () -> x.rob(1), () -> x.law(0, -1),
            () -> x.law(8, 1), () -> x.list(20) ? 1 : 0, () -> x.way(0, 1, 0, 0),
        };
        for (int i = 0; i < calls.length; i++) {
            String outcome = Check.outcome(calls[i]);
            check.due("call " + i + " (" + outcome + ")", outcome.endsWith("Exception"), true);
        }
        check.due("all there is to ask", all(x, 3, 2), before);
        check.due("the hour", x.pass(1), 2);
        check.due("the name is listed as before", x.list(3), false);
        check.due("the festival is the first", x.festival(), true);
        check.due("next courier", x.courier(0, 1, 1, 1), 1);
        check.due("next broker", x.broker(0, 0, 0), 3);
    }

    /** As many brokers, orders and couriers as there can be: each call still answers. */
    private static void fullHall() {
        check.part("full hall");
        HundiHall x = new HundiHall();
        for (int i = 0; i < 12; i++) {
            x.broker(i % 8, 1000, 0);
            if (i > 0) {
                x.trust(i, i - 1, 1000000, false);
            }
        }
        for (int i = 0; i < 40; i++) {
            x.order(0, 11, 100, i % 20, i);
            x.courier(i % 12, (i + 1) % 12, 10, 1 + i);
        }
        check.due("debt", x.debt(10, 11, false), 4000);
        check.due("ways", Halls.wayTextOf(x, 39), "0-1-2-3-4-5-6-7-8-9-10-11");
        check.due("behind the last place", x.wayOf(39, 12), HundiHall.NONE);
        check.due("way", x.way(0, 11, 1, 11), 11);
        check.due("behind its last place", x.way(0, 11, 1, 12), HundiHall.NONE);
        check.due("raid in the middle", x.raid(6), 1000 - 30);
        check.due("all go back", x.orderOf(39, 0), HundiHall.GOES_BACK);
        check.due("pass", x.pass(40), 40);
        check.due("all given back", x.sum(2), 4000);
        check.due("all couriers have come", x.sum(5), 0);
        check.due("ring", x.ring(), 0);
        check.due("inquiry by couriers", x.inquiry(), 4095);
        check.due("given", x.sum(0), 4000);
        check.due("paid out", x.sum(1), 0);
        check.due("lost by couriers", x.sum(3), 0);
        check.due("cash", x.sum(6), 12000 - 970);
        check.due("LOST", x.sum(7), 0);
        check.due("worth", x.brokerOf(11, 3), 1000);
        check.due("breakWord", x.breakWord(11), 0);
        check.due("list", x.list(19), true);
        check.due("law", x.law(7, 0), 0);
    }

    /** No call throws anything but what the document names, whatever it is called with. */
    private static void oddArguments() {
        check.part("odd arguments");
        int[] odd = {MIN, MIN + 1, -1, 0, 1, 11, 12, 40, 1000001, MAX - 1, MAX};
        for (int a : odd) {
            for (int b : odd) {
                HundiHall x = Halls.chain(12, 1000);
                x.order(0, 11, 1000, 0, 0);
                x.courier(0, 1, 1, 1);
                named("rate", () -> x.rate(a, b));
                named("trust", () -> { x.trust(a, b, b, true); return 0; });
                named("order", () -> x.order(a, b, 1, 0, 0));
                named("order", () -> x.order(0, 1, a, b, b));
                named("fetch", () -> x.fetch(a, b));
                named("pay", () -> x.pay(a, b, a));
                named("deliver", () -> x.deliver(a, b, b));
                named("courier", () -> x.courier(a, b, b, a));
                named("courier", () -> x.courier(0, 1, a, b));
                named("rob", () -> x.rob(a));
                named("law", () -> x.law(a, b));
                named("list", () -> x.list(a) ? 1 : 0);
                named("brokerOf", () -> x.brokerOf(a, b));
                named("debt", () -> x.debt(a, b, a < b));
                named("agree", () -> x.agree(a, b) ? 1 : 0);
                named("way", () -> x.way(a, b, 1, a));
                named("way", () -> x.way(0, 1, a, b));
                named("wayOf", () -> x.wayOf(a, b));
                named("orderOf", () -> x.orderOf(a, b));
                named("sum", () -> x.sum(a));
                named("pass", () -> x.pass(a));
                named("raid", () -> x.raid(a));
                named("breakWord", () -> x.breakWord(b));
                named("broker", () -> x.broker(a, b, a));
            }
        }
    }

    private static void named(String call, Check.Call made) {
        String outcome = Check.outcome(made);
        boolean isNamed = !outcome.endsWith("Exception") || outcome.equals(Check.INDEX)
                || outcome.equals(Check.ARGUMENT) || outcome.equals(Check.STATE);
        check.due(call + " (" + outcome + ")", isNamed, true);
    }
}
