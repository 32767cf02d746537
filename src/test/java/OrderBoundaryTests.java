/**
 * Both sides of each boundary that the document names under "Orders" and, for what hours do to these, under "Hours,
 * raids, laws, books". Each part bears the sentence that it holds to.
 */
public final class OrderBoundaryTests {
    private static final Check check = new Check();

    public static void main(String[] args) {
        ordersAtMostForty();
        senderGivesAmountAndFees();
        messageGoesOn();
        hereWithTheLastOne();
        codes();
        thirdFalseCode();
        falseCodesThatDoNotCount();
        tooOld();
        tooOldStepByStep();
        takenBackAsTheyArose();
        givenBackInAnHourThatComes();
        givenBackInThatOne();
        givenBackWithCashEnough();
        givenBackByOneThatIsGood();
        lostOnItsWay();
        lostWhileItGoesBack();
        lostAsItWouldGoBack();
        notLost();
        messageHasNotComeYet();
        onTheRestOfItsWay();
        newWayFromTheMessage();
        newWayWithoutThoseAhead();
        newWayByTheLimit();
        newWayByFees();
        newWayStraightToTheLastOne();
        newWayByFeesOfNow();
        newWayByFeesAsTheyArose();
        newWaysByRisingNumbers();
        onItsWayBehindThat();
        placesOfAnOrder();
        longestWay();
        shorterWay();
        orderOfThings();
        check.end("OrderBoundaryTests");
    }

    private static int state(HundiHall x, int order) {
        return x.orderOf(order, 0);
    }

    /** An order of 100 from 0 to 1, code 7; 1 and the giver 2 have cash. It is HERE. */
    private static HundiHall here() {
        HundiHall x = new HundiHall();
        x.broker(0, 0, 10);
        x.broker(1, 1000, 0);
        x.broker(2, 1000, 0);
        x.trust(1, 0, 1000, false);
        x.order(0, 1, 100, 0, 7);
        x.pass(1);
        return x;
    }

    private static void ordersAtMostForty() {
        check.part("Orders are numbered from 0, at most 40");
        HundiHall x = Halls.chain(2, 1000);
        x.law(0, 0);
        check.dueThrow(Check.STATE, "a refused one has no number", () -> x.order(1, 0, 1, 0, 0));
        for (int i = 0; i < 40; i++) {
            int next = i;
            check.dueThrow(Check.INDEX, "not yet " + i, () -> x.orderOf(next, 0));
            check.due("the next one", x.order(0, 1, 1, 0, 0), i);
            check.due("there is " + i, state(x, i), HundiHall.ON_ITS_WAY);
        }
        check.dueThrow(Check.STATE, "the forty-first", () -> x.order(0, 1, 1, 0, 0));
        check.dueThrow(Check.INDEX, "there is no 40", () -> x.orderOf(40, 0));
        check.due("cash", x.brokerOf(0, 1), 40);
        check.due("debt", x.debt(0, 1, false), 40);
        check.due("told", x.law(0, 0), 40);
        check.due("given", x.sum(0), 40);
        x.pass(240);
        check.due("all are BACK", x.sum(2), 40);
        check.dueThrow(Check.STATE, "that makes no room", () -> x.order(0, 1, 1, 0, 0));
    }

    private static void senderGivesAmountAndFees() {
        check.part("the sender gives the first broker the amount and all fees, in cash");
        HundiHall x = Halls.chain(3, 1000000);
        x.order(0, 2, 1, 0, 0);
        check.due("the least", x.orderOf(0, 2), 1);
        check.due("cash", x.brokerOf(0, 1), 1);
        x.rate(0, 100);
        x.rate(1, 10);
        x.rate(2, 1);
        x.order(0, 2, 1000, 0, 0);
        check.due("the first one's, the next one's, the last one's", x.orderOf(1, 2), 1111);
        check.due("cash then", x.brokerOf(0, 1), 1112);
        check.due("no cash for the next one", x.brokerOf(1, 1), 0);
        check.due("no cash for the last one", x.brokerOf(2, 1), 0);
        check.due("the amount", x.orderOf(1, 1), 1000);
    }

    private static void messageGoesOn() {
        check.part("its message is with the first broker, and is with the next one in each hour that comes");
        HundiHall x = Halls.chain(12, 1000);
        x.order(0, 11, 10, 0, 0);
        for (int i = 0; i < 11; i++) {
            check.due("place", x.orderOf(0, 3), i);
            check.due("ON_ITS_WAY", state(x, 0), HundiHall.ON_ITS_WAY);
            x.pass(1);
        }
        check.due("the last place", x.orderOf(0, 3), 11);
        check.due("HERE", state(x, 0), HundiHall.HERE);
        x.pass(1);
        check.due("it stays there", x.orderOf(0, 3), 11);
        HundiHall y = Halls.chain(12, 1000);
        y.order(0, 11, 10, 0, 0);
        y.pass(10);
        check.due("10 hours at once", state(y, 0) * 100 + y.orderOf(0, 3), 10);
        y.pass(1);
        check.due("11 hours", state(y, 0) * 100 + y.orderOf(0, 3), 111);
        HundiHall z = Halls.chain(12, 1000);
        z.order(0, 11, 10, 0, 0);
        z.pass(200);
        check.due("200 hours", state(z, 0) * 100 + z.orderOf(0, 3), 111);
        HundiHall w = Halls.chain(3, 1000);
        w.order(0, 2, 10, 0, 0);
        w.pass(1);
        w.raid(1);
        w.breakWord(1);
        w.pass(1);
        check.due("also from one that is BROKEN", state(w, 0), HundiHall.HERE);
    }

    private static void hereWithTheLastOne() {
        check.part("ON_ITS_WAY until the message is with the last one, then HERE");
        HundiHall x = Halls.chain(3, 1000);
        x.broker(0, 1000, 0);
        x.trust(3, 0, 1000, false);
        x.order(0, 3, 10, 0, 0);
        x.order(0, 2, 10, 0, 0);
        check.due("two brokers", state(x, 0), HundiHall.ON_ITS_WAY);
        Twins.refused(check, Check.STATE, "not fetched ahead of that", () -> {
            HundiHall y = here();
            y.order(0, 1, 5, 0, 7);
            return y;
        }, y -> y.fetch(1, 7));
        x.pass(1);
        check.due("two brokers, an hour", state(x, 0), HundiHall.HERE);
        check.due("three brokers, an hour", state(x, 1), HundiHall.ON_ITS_WAY);
        check.due("fetched", x.fetch(0, 0), HundiHall.PAID);
        x.pass(1);
        check.due("three brokers, two hours", state(x, 1), HundiHall.HERE);
        check.due("what is PAID stays so", state(x, 0), HundiHall.PAID);
    }

    private static int fetched(int code, int told) {
        HundiHall x = here();
        x.order(0, 1, 1, 0, code);
        x.pass(1);
        return x.fetch(1, told);
    }

    private static void codes() {
        check.part("it can be fetched by its code, 0 to 9999 (9)");
        check.due("0", fetched(0, 0), HundiHall.PAID);
        check.due("9999", fetched(9999, 9999), HundiHall.PAID);
        check.due("1 for 0", fetched(0, 1), HundiHall.HERE);
        check.due("9998 for 9999", fetched(9999, 9998), HundiHall.HERE);
        check.due("0 for 9999", fetched(9999, 0), HundiHall.HERE);
        check.due("9999 for 0", fetched(0, 9999), HundiHall.HERE);
        Twins.refused(check, Check.ARGUMENT, "10000", OrderBoundaryTests::here, x -> x.fetch(0, 10000));
        Twins.refused(check, Check.ARGUMENT, "-1", OrderBoundaryTests::here, x -> x.fetch(0, -1));
        HundiHall x = here();
        check.due("PAID", x.fetch(0, 7), HundiHall.PAID);
        check.due("cash of the amount, without fees", x.brokerOf(1, 1), 900);
        check.due("the debt stays", x.debt(0, 1, false), 100);
        check.due("paid out", x.sum(1), 100);
        check.due("the first one keeps what was given", x.brokerOf(0, 1), 101);
    }

    private static void thirdFalseCode() {
        check.part("With the third false code what is HERE GOES_BACK");
        HundiHall x = here();
        check.due("first", x.fetch(0, 8), HundiHall.HERE);
        check.due("count", x.orderOf(0, 4), 1);
        check.due("second, the same one", x.fetch(0, 8), HundiHall.HERE);
        check.due("count", x.orderOf(0, 4), 2);
        check.due("debt", x.debt(0, 1, false), 100);
        check.due("the right one", x.fetch(0, 7), HundiHall.PAID);
        check.due("false codes stay told", x.orderOf(0, 4), 2);
        HundiHall y = here();
        y.fetch(0, 8);
        y.fetch(0, 6);
        check.due("third", y.fetch(0, 9), HundiHall.GOES_BACK);
        check.due("count", y.orderOf(0, 4), 3);
        check.due("no debt", y.debt(0, 1, false), 0);
        check.due("no cash is paid out", y.brokerOf(1, 1), 1000);
        Twins.Scene going = () -> {
            HundiHall z = here();
            Halls.fetchFalse(z, 0, 8, 3);
            return z;
        };
        Twins.refused(check, Check.STATE, "the right one then", going, z -> z.fetch(0, 7));
        Twins.refused(check, Check.STATE, "a fourth false one", going, z -> z.fetch(0, 8));
        HundiHall w = here();
        w.order(0, 1, 10, 0, 7);
        w.pass(1);
        Halls.fetchFalse(w, 0, 8, 2);
        check.due("each order by itself", w.fetch(1, 8), HundiHall.HERE);
        check.due("each count by itself", w.orderOf(1, 4), 1);
        w.pass(100);
        check.due("however late", w.fetch(0, 8), HundiHall.GOES_BACK);
    }

    private static void falseCodesThatDoNotCount() {
        check.part("a false code that is refused does not count");
        HundiHall x = here();
        Halls.fetchFalse(x, 0, 8, 2);
        x.raid(1);
        check.dueThrow(Check.STATE, "RAIDED", () -> x.fetch(0, 8));
        check.dueThrow(Check.ARGUMENT, "out of range", () -> x.fetch(0, 10000));
        check.due("count", x.orderOf(0, 4), 2);
        check.due("HERE", state(x, 0), HundiHall.HERE);
        HundiHall y = here();
        y.courier(1, 2, 901, 1);
        check.dueThrow(Check.STATE, "less cash", () -> y.fetch(0, 8));
        check.due("count", y.orderOf(0, 4), 0);
        y.courier(2, 1, 1, 1);
        y.pass(1);
        check.due("cash of the amount", y.fetch(0, 8), HundiHall.HERE);
        check.due("count then", y.orderOf(0, 4), 1);
    }

    private static void tooOld() {
        check.part("240 hours behind that in which it was given");
        int[] given = {0, 1, 777};
        for (int hour : given) {
            HundiHall x = Halls.chain(3, 1000);
            Halls.pass(x, hour);
            x.order(0, 2, 100, 0, 0);
            x.raid(0);
            x.pass(239);
            check.due("239 hours", state(x, 0), HundiHall.HERE);
            check.due("debt", x.debt(0, 1, false), 100);
            x.pass(1);
            check.due("240 hours", state(x, 0), HundiHall.GOES_BACK);
            check.due("no debt", x.debt(0, 1, false), 0);
        }
        HundiHall y = here();
        y.pass(238);
        check.due("fetched in 239 hours", y.fetch(0, 7), HundiHall.PAID);
        y.pass(1);
        check.due("what is PAID is not too old", state(y, 0), HundiHall.PAID);
        Twins.Scene old = () -> {
            HundiHall z = here();
            z.pass(239);
            return z;
        };
        Twins.refused(check, Check.STATE, "fetched in 240 hours", old, z -> z.fetch(0, 7));
        check.due("BACK in 240 hours", state(old.make(), 0), HundiHall.BACK);
    }

    private static void tooOldStepByStep() {
        check.part("240 hours, each order by its own hour");
        HundiHall x = Halls.chain(2, 1000);
        x.order(0, 1, 10, 0, 0);
        x.pass(1);
        x.order(0, 1, 10, 0, 0);
        for (int i = 0; i < 238; i++) {
            x.pass(1);
        }
        check.due("239 and 238", state(x, 0) * 10 + state(x, 1), 11 * HundiHall.HERE);
        x.pass(1);
        check.due("240 and 239", state(x, 0) * 10 + state(x, 1), 10 * HundiHall.BACK + HundiHall.HERE);
        x.pass(1);
        check.due("241 and 240", state(x, 0) * 10 + state(x, 1), 11 * HundiHall.BACK);
    }

    private static void takenBackAsTheyArose() {
        check.part("its debts are taken back as they arose (by debts the other way)");
        int[] paid = {0, 99, 100};
        for (int amount : paid) {
            HundiHall x = here();
            x.raid(0);
            if (amount > 0) {
                x.deliver(0, 1, amount);
            }
            x.rate(1, 100);
            Halls.fetchFalse(x, 0, 8, 3);
            check.due("delivered " + amount, x.debt(0, 1, false), -amount);
            check.due("its book", x.debt(0, 1, true), -amount);
            check.due("the other one's", x.debt(1, 0, true), amount);
        }
        HundiHall y = here();
        y.courier(0, 1, 101, 1);
        y.pass(1);
        check.due("one more than the debt", y.debt(1, 0, false), 1);
        Halls.fetchFalse(y, 0, 8, 3);
        check.due("and taken back", y.debt(1, 0, false), 101);
    }

    private static void givenBackInAnHourThatComes() {
        check.part("in an hour that comes that is given back, and it is BACK");
        HundiHall x = here();
        Halls.fetchFalse(x, 0, 8, 3);
        check.due("not at once, by codes", state(x, 0), HundiHall.GOES_BACK);
        check.due("cash", x.brokerOf(0, 1), 101);
        x.pass(1);
        check.due("in the next hour", state(x, 0), HundiHall.BACK);
        check.due("what the sender gave, with fees", x.brokerOf(0, 1), 0);
        check.due("given back", x.sum(2), 101);
        x.pass(500);
        check.due("once", x.sum(2), 101);
        HundiHall y = Halls.chain(3, 1000);
        y.order(0, 2, 100, 0, 0);
        y.raid(2);
        check.due("not at once, by a raid", state(y, 0), HundiHall.GOES_BACK);
        check.due("cash", y.brokerOf(0, 1), 100);
        y.pass(1);
        check.due("in the next hour", state(y, 0), HundiHall.BACK);
        HundiHall z = Halls.chain(3, 1000);
        z.order(0, 2, 100, 0, 0);
        z.breakWord(1);
        check.due("not at once, by a broken word", state(z, 0), HundiHall.GOES_BACK);
        z.pass(1);
        check.due("in the next hour", state(z, 0), HundiHall.BACK);
    }

    private static void givenBackInThatOne() {
        check.part("(or in that one, if it became too old in it)");
        HundiHall x = Halls.chain(2, 1000);
        x.order(0, 1, 100, 0, 0);
        x.pass(239);
        check.due("239", state(x, 0), HundiHall.HERE);
        check.due("cash", x.brokerOf(0, 1), 100);
        check.due("hour", x.pass(1), 240);
        check.due("240", state(x, 0), HundiHall.BACK);
        check.due("no cash", x.brokerOf(0, 1), 0);
        check.due("no debt", x.debt(0, 1, false), 0);
    }

    /** The order of here(), going back, the first broker having the cash. */
    private static HundiHall goingWithCash(int cash) {
        HundiHall x = here();
        if (cash < 101) {
            x.courier(0, 2, 101 - cash, 500);
        }
        Halls.fetchFalse(x, 0, 8, 3);
        return x;
    }

    private static void givenBackWithCashEnough() {
        check.part("has cash enough for what the sender gave");
        HundiHall x = goingWithCash(100);
        x.pass(1);
        check.due("one less", state(x, 0), HundiHall.GOES_BACK);
        check.due("nothing is taken of it", x.brokerOf(0, 1), 100);
        x.pass(30);
        check.due("nor later", state(x, 0) * 1000 + x.brokerOf(0, 1), HundiHall.GOES_BACK * 1000 + 100);
        x.courier(2, 0, 1, 1);
        x.pass(1);
        check.due("in the hour in which the rest comes", state(x, 0), HundiHall.GOES_BACK);
        x.pass(1);
        check.due("in the hour behind that", state(x, 0), HundiHall.BACK);
        HundiHall y = Halls.chain(2, 1000);
        y.broker(0, 1000, 0);
        y.order(0, 1, 100, 0, 0);
        y.order(0, 1, 1, 0, 0);
        y.order(0, 1, 100, 0, 0);
        y.courier(0, 2, 100, 500);
        y.pass(240);
        check.due("enough for the first ones by number", state(y, 0) * 10 + state(y, 1), 11 * HundiHall.BACK);
        check.due("none for the last", state(y, 2), HundiHall.GOES_BACK);
        HundiHall z = Halls.chain(2, 1000);
        z.broker(0, 1000, 0);
        z.order(0, 1, 100, 0, 0);
        z.order(0, 1, 30, 0, 0);
        z.courier(0, 2, 31, 500);
        z.pass(240);
        check.due("not enough for the lower number", state(z, 0), HundiHall.GOES_BACK);
        check.due("but for the higher one", state(z, 1), HundiHall.BACK);
    }

    private static void givenBackByOneThatIsGood() {
        check.part("in which the first broker is GOOD");
        HundiHall x = here();
        x.raid(0);
        x.courier(2, 0, 101, 1);
        x.pass(1);
        Halls.fetchFalse(x, 0, 8, 3);
        Halls.pass(x, 718);
        check.due("RAIDED", x.brokerOf(0, 0), HundiHall.RAIDED);
        check.due("with cash", x.brokerOf(0, 1), 101);
        check.due("it goes back", state(x, 0), HundiHall.GOES_BACK);
        x.pass(1);
        check.due("GOOD", x.brokerOf(0, 0), HundiHall.GOOD);
        check.due("in the same hour", state(x, 0), HundiHall.BACK);
        check.due("no cash", x.brokerOf(0, 1), 0);
    }

    private static void lostOnItsWay() {
        check.part("LOST, when its first broker becomes BROKEN while it is ON_ITS_WAY, its debts are taken back then (6)");
        for (int hours = 0; hours < 3; hours++) {
            HundiHall x = Halls.chain(4, 1000);
            x.rate(0, 10);
            x.order(0, 3, 100, 0, 0);
            if (hours > 0) {
                x.pass(hours);
            }
            check.due("lost", x.breakWord(0), 1);
            check.due("LOST", state(x, 0), HundiHall.LOST);
            check.due("place", x.orderOf(0, 3), hours);
            check.due("what senders of LOST orders gave", x.sum(7), 101);
            check.due("cash stays", x.brokerOf(0, 1), 101);
            for (int i = 0; i < 3; i++) {
                check.due("debt of step " + i, x.debt(i, i + 1, false), 0);
                check.due("book of who owed", x.debt(i, i + 1, true), 0);
                check.due("book of who was owed", x.debt(i + 1, i, true), 0);
            }
            x.pass(500);
            check.due("not given back", x.sum(2), 0);
            check.due("place then", x.orderOf(0, 3), hours);
            check.dueThrow(Check.STATE, "not fetched", () -> x.fetch(0, 0));
        }
        HundiHall y = Halls.chain(3, 1000);
        y.order(0, 2, 100, 0, 0);
        y.raid(0);
        check.due("RAIDED ahead of that", state(y, 0), HundiHall.ON_ITS_WAY);
        check.due("lost then", y.breakWord(0), 1);
        check.due("none to be lost", y.breakWord(1), 0);
    }

    private static void lostWhileItGoesBack() {
        check.part("LOST, when its first broker becomes BROKEN while it GOES_BACK");
        HundiHall x = goingWithCash(101);
        check.due("with cash", x.breakWord(0), 1);
        check.due("LOST", state(x, 0), HundiHall.LOST);
        check.due("debts are taken back once", x.debt(0, 1, false), 0);
        x.pass(1);
        check.due("not given back", state(x, 0), HundiHall.LOST);
        check.due("cash stays", x.brokerOf(0, 1), 101);
        HundiHall y = goingWithCash(101);
        y.pass(1);
        check.due("what is BACK is not", y.breakWord(0), 0);
        check.due("BACK", state(y, 0), HundiHall.BACK);
        check.due("LOST together", y.sum(7), 0);
        HundiHall z = goingWithCash(100);
        z.pass(50);
        check.due("without cash", z.breakWord(0), 1);
        check.due("LOST together", z.sum(7), 101);
        HundiHall w = goingWithCash(101);
        check.due("another one's word", w.breakWord(1), 0);
        check.due("it goes back as before", state(w, 0), HundiHall.GOES_BACK);
        w.pass(1);
        check.due("and is BACK", state(w, 0), HundiHall.BACK);
    }

    private static void lostAsItWouldGoBack() {
        check.part("or, its debts being taken back as well, as it would begin to go back when that one is BROKEN");
        HundiHall x = here();
        check.due("what is HERE is not LOST", x.breakWord(0), 0);
        check.due("HERE", state(x, 0), HundiHall.HERE);
        check.due("debt", x.debt(0, 1, false), 100);
        x.fetch(0, 8);
        check.due("two false codes", x.fetch(0, 8), HundiHall.HERE);
        check.due("not yet", x.sum(7), 0);
        check.due("the third one", x.fetch(0, 8), HundiHall.LOST);
        check.due("count", x.orderOf(0, 4), 3);
        check.due("no debt", x.debt(0, 1, false), 0);
        check.due("its book", x.debt(0, 1, true), 0);
        check.due("the other one's", x.debt(1, 0, true), 0);
        check.due("LOST together", x.sum(7), 101);
        HundiHall y = here();
        y.breakWord(0);
        y.pass(238);
        check.due("239 hours", state(y, 0), HundiHall.HERE);
        y.pass(1);
        check.due("240 hours", state(y, 0), HundiHall.LOST);
        check.due("no debt", y.debt(0, 1, false), 0);
        check.due("not given back", y.sum(2), 0);
        check.due("cash stays", y.brokerOf(0, 1), 101);
        HundiHall z = here();
        z.breakWord(0);
        check.due("it can be PAID", z.fetch(0, 7), HundiHall.PAID);
        z.pass(500);
        check.due("PAID", state(z, 0), HundiHall.PAID);
    }

    private static void notLost() {
        check.part("6: returns how many orders are LOST by that");
        HundiHall x = Halls.chain(3, 1000);
        x.trust(0, 1, 1000, false);
        check.due("none", Halls.chain(2, 10).breakWord(0), 0);
        for (int i = 0; i < 3; i++) {
            x.order(0, 2, 10, 0, 0);
            x.order(1, 2, 10, 0, 0);
            x.order(1, 0, 10, 0, 0);
        }
        check.due("three from it", x.breakWord(0), 3);
        for (int i = 0; i < 9; i += 3) {
            check.due("from it", state(x, i), HundiHall.LOST);
            check.due("of another one", state(x, i + 1), HundiHall.ON_ITS_WAY);
            check.due("to it", state(x, i + 2), HundiHall.GOES_BACK);
        }
        check.due("of the other one", x.breakWord(1), 6);
        check.due("all", x.sum(7), 90);
    }

    /** An order along 0 to 4, its message being with the broker at the place. */
    private static HundiHall at(int place) {
        HundiHall x = Halls.chain(5, 1000);
        x.order(0, 4, 100, 0, 0);
        if (place > 0) {
            x.pass(place);
        }
        return x;
    }

    private static void messageHasNotComeYet() {
        check.part("whose message has not come to that broker yet, who is on the rest of its way");
        for (int place = 0; place < 5; place++) {
            for (int broker = 1; broker < 5; broker++) {
                int as = place == 4 ? HundiHall.HERE : HundiHall.ON_ITS_WAY;
                int due = broker > place ? HundiHall.GOES_BACK : as;
                HundiHall x = at(place);
                x.raid(broker);
                check.due("at " + place + ", raid of " + broker, state(x, 0), due);
                check.due("debt", x.debt(0, 1, false), broker > place ? 0 : 100);
                check.due("last debt", x.debt(3, 4, false), broker > place ? 0 : 100);
                HundiHall y = at(place);
                y.breakWord(broker);
                check.due("at " + place + ", broken word of " + broker, state(y, 0), due);
            }
            HundiHall z = at(place);
            z.raid(0);
            check.due("at " + place + ", raid of 0", state(z, 0), place == 4 ? HundiHall.HERE : HundiHall.ON_ITS_WAY);
        }
    }

    private static void onTheRestOfItsWay() {
        check.part("who is on the rest of its way");
        HundiHall x = Halls.chain(3, 1000);
        x.broker(0, 0, 0);
        x.trust(3, 0, 1000, false);
        x.trust(2, 3, 1000, false);
        x.order(0, 2, 100, 0, 0);
        check.due("way", Halls.wayTextOf(x, 0), "0-1-2");
        x.raid(3);
        check.due("one that is not on it", Halls.wayTextOf(x, 0) + state(x, 0), "0-1-20");
        HundiHall y = Halls.chain(3, 1000);
        y.broker(0, 0, 0);
        y.trust(3, 0, 1000, false);
        y.trust(2, 3, 1000, false);
        y.order(0, 2, 100, 0, 0);
        y.raid(1);
        check.due("one that is on it", Halls.wayTextOf(y, 0) + state(y, 0), "0-3-20");
        y.pass(1);
        Halls.pass(y, 238);
        check.due("not given anew", y.orderOf(0, 5) + state(y, 0), HundiHall.HERE);
        y.pass(1);
        check.due("too old as it was given", state(y, 0), HundiHall.BACK);
    }

    /** From 0 by 1 to 4, or from 1 by 2 or 3; the rates are of 2, 3 and 4. The message is with 1. */
    private static HundiHall fork(int rate2, int rate3, int rate4) {
        HundiHall x = new HundiHall();
        int[] rates = {3, 5, rate2, rate3, rate4};
        for (int rate : rates) {
            x.broker(0, 0, rate);
        }
        x.trust(1, 0, 100000, false);
        for (int i = 2; i < 4; i++) {
            x.trust(i, 1, 100000, false);
            x.trust(4, i, 100000, false);
        }
        x.order(0, 4, 1000, 0, 0);
        x.pass(1);
        return x;
    }

    private static void newWayFromTheMessage() {
        check.part("the debts from the broker on with whom the message is are taken back, a way from that one is looked for");
        HundiHall x = fork(10, 10, 1);
        check.due("way", Halls.wayTextOf(x, 0), "0-1-2-4");
        x.deliver(1, 2, 300);
        x.raid(2);
        check.due("new way", Halls.wayTextOf(x, 0), "0-1-3-4");
        check.due("the debt ahead stays", x.debt(0, 1, false), 1016);
        check.due("taken back as it arose", x.debt(1, 2, false), -300);
        check.due("the next one", x.debt(2, 4, false), 0);
        check.due("arisen", x.debt(1, 3, false), 1011);
        check.due("arisen next", x.debt(3, 4, false), 1001);
        check.due("who owes knows", x.debt(1, 3, true), 1011);
        check.due("who is owed does not", x.debt(3, 1, true), 0);
        check.due("place", x.orderOf(0, 3), 1);
        check.due("given", x.orderOf(0, 2), 1019);
        x.pass(1);
        check.due("then that one knows", x.debt(3, 1, true), -1011);
        check.due("ON_ITS_WAY", state(x, 0), HundiHall.ON_ITS_WAY);
        x.pass(1);
        check.due("HERE", state(x, 0), HundiHall.HERE);
        HundiHall y = fork(10, 10, 1);
        y.raid(1);
        check.due("from one that is RAIDED", state(y, 0), HundiHall.ON_ITS_WAY);
        y.raid(2);
        check.due("there is none", state(y, 0), HundiHall.GOES_BACK);
        HundiHall z = fork(10, 10, 1);
        z.raid(4);
        check.due("to one that is RAIDED", state(z, 0), HundiHall.GOES_BACK);
    }

    /** 0 to 3 in a row, the message with the place; then 3 trusts 0, and 0 trusts 1. */
    private static HundiHall withWayByOneAhead(int place) {
        HundiHall x = Halls.chain(4, 1000);
        x.order(0, 3, 100, 0, 0);
        if (place > 0) {
            x.pass(place);
        }
        x.trust(3, 0, 1000, false);
        x.trust(0, 1, 1000, false);
        return x;
    }

    private static void newWayWithoutThoseAhead() {
        check.part("without the brokers that are ahead of that one on its way");
        HundiHall x = withWayByOneAhead(1);
        check.due("an order would go so", Halls.wayText(x, 1, 3, 50), "1-0-3");
        x.raid(2);
        check.due("an order would go so then too", Halls.wayText(x, 1, 3, 50), "1-0-3");
        check.due("this one not", state(x, 0), HundiHall.GOES_BACK);
        HundiHall y = withWayByOneAhead(0);
        y.raid(2);
        check.due("by that one itself", Halls.wayTextOf(y, 0) + " " + state(y, 0), "0-3 0");
        HundiHall z = withWayByOneAhead(1);
        z.trust(3, 1, 1000, false);
        z.raid(2);
        check.due("by others", Halls.wayTextOf(z, 0) + " " + state(z, 0), "0-1-3 0");
        HundiHall w = withWayByOneAhead(1);
        int other = w.broker(0, 0, 0);
        w.trust(other, 1, 1000, false);
        w.trust(3, other, 1000, false);
        w.raid(2);
        check.due("by one of a higher number", Halls.wayTextOf(w, 0) + " " + state(w, 0), "0-1-4-3 0");
    }

    private static void newWayByTheLimit() {
        check.part("a new way, by the limit as it is now");
        int[] limits = {1011, 1010};
        for (int limit : limits) {
            HundiHall x = fork(10, 10, 1);
            x.trust(3, 1, limit, false);
            x.raid(2);
            check.due("limit " + limit, state(x, 0), limit == 1011 ? HundiHall.ON_ITS_WAY : HundiHall.GOES_BACK);
        }
        HundiHall y = fork(10, 10, 1);
        y.trust(3, 1, 506, true);
        y.festival();
        y.raid(2);
        check.due("twice 506 in a festival", Halls.wayTextOf(y, 0) + " " + state(y, 0), "0-1-3-4 0");
        HundiHall z = fork(10, 10, 1);
        z.trust(3, 1, 505, true);
        z.festival();
        z.raid(2);
        check.due("twice 505 in a festival", state(z, 0), HundiHall.GOES_BACK);
        HundiHall w = Halls.chain(4, 100);
        w.trust(3, 1, 100, false);
        w.broker(0, 0, 0);
        w.trust(4, 2, 100, false);
        w.trust(4, 3, 100, false);
        w.order(0, 4, 100, 0, 0);
        check.due("way", Halls.wayTextOf(w, 0), "0-1-2-4");
        w.raid(2);
        check.due("what is taken back leaves room", Halls.wayTextOf(w, 0) + " " + state(w, 0), "0-1-3-4 0");
    }

    private static int raidWithFees(int rate3, int rate4) {
        HundiHall x = fork(10, 50, 2);
        x.rate(3, rate3);
        x.rate(4, rate4);
        x.raid(2);
        return state(x, 0);
    }

    private static void newWayByFees() {
        check.part("the fees behind that broker are together not more than those were when they arose");
        check.due("one less", raidWithFees(9, 2), HundiHall.ON_ITS_WAY);
        check.due("as much", raidWithFees(10, 2), HundiHall.ON_ITS_WAY);
        check.due("one more", raidWithFees(11, 2), HundiHall.GOES_BACK);
        check.due("as much together", raidWithFees(12, 0), HundiHall.ON_ITS_WAY);
        check.due("one more together", raidWithFees(13, 0), HundiHall.GOES_BACK);
        check.due("all of the last one", raidWithFees(0, 12), HundiHall.ON_ITS_WAY);
        check.due("more of the last one", raidWithFees(0, 13), HundiHall.GOES_BACK);
        HundiHall x = fork(0, 0, 0);
        x.raid(2);
        check.due("none for none", state(x, 0), HundiHall.ON_ITS_WAY);
        HundiHall y = fork(0, 0, 0);
        y.rate(3, 1);
        y.raid(2);
        check.due("one for none", state(y, 0), HundiHall.GOES_BACK);
    }

    private static void newWayStraightToTheLastOne() {
        check.part("the fees behind that broker, if the last one alone is behind");
        int[] rates = {11, 12, 13};
        for (int rate : rates) {
            HundiHall x = fork(10, 50, 2);
            x.trust(4, 1, 100000, false);
            x.rate(4, rate);
            x.raid(2);
            check.due("rate " + rate, state(x, 0), rate <= 12 ? HundiHall.ON_ITS_WAY : HundiHall.GOES_BACK);
            check.due("way", Halls.wayTextOf(x, 0), rate <= 12 ? "0-1-4" : "0-1-2-4");
        }
    }

    private static void newWayByFeesOfNow() {
        check.part("by rates of now, the fees behind that broker alone");
        HundiHall x = fork(10, 10, 2);
        x.rate(0, 100);
        x.rate(1, 100);
        x.raid(2);
        check.due("that one's and those ahead do not count", state(x, 0), HundiHall.ON_ITS_WAY);
        HundiHall y = fork(10, 10, 2);
        y.rate(2, 100);
        y.rate(3, 11);
        y.raid(2);
        check.due("those were when they arose", state(y, 0), HundiHall.GOES_BACK);
        HundiHall z = fork(10, 50, 2);
        z.rate(3, 4);
        z.rate(4, 1);
        z.raid(2);
        check.due("debts arise by rates of now", z.debt(1, 3, false) * 10000 + z.debt(3, 4, false), 10051001);
        check.due("the debt ahead as it arose", z.debt(0, 1, false), 1017);
        check.due("worth of 1: its fee and what was spared", z.brokerOf(1, 3), 1017 - 1005);
    }

    private static void newWayByFeesAsTheyArose() {
        check.part("than those were when they arose, on the new way too");
        int[] rates = {7, 8};
        for (int rate : rates) {
            HundiHall x = fork(10, 50, 0);
            int third = x.broker(0, 0, rate);
            x.trust(third, 1, 100000, false);
            x.trust(4, third, 100000, false);
            x.rate(3, 7);
            x.rate(third, 100);
            x.raid(2);
            check.due("new way", Halls.wayTextOf(x, 0), "0-1-3-4");
            x.rate(third, rate);
            x.raid(3);
            check.due("rate " + rate, state(x, 0), rate == 7 ? HundiHall.ON_ITS_WAY : HundiHall.GOES_BACK);
        }
    }

    private static HundiHall twoOrders(int left) {
        HundiHall x = new HundiHall();
        for (int i = 0; i < 4; i++) {
            x.broker(0, 0, 0);
        }
        for (int i = 1; i < 3; i++) {
            x.trust(i, 0, 1000, false);
            x.trust(3, i, 1000, false);
        }
        x.order(0, 3, 50, 0, 0);
        x.order(0, 3, 40, 0, 0);
        x.trust(3, 2, left, false);
        x.raid(1);
        return x;
    }

    private static void newWaysByRisingNumbers() {
        check.part("by rising numbers");
        HundiHall x = twoOrders(90);
        check.due("room for both", state(x, 0) * 10 + state(x, 1), 0);
        HundiHall y = twoOrders(89);
        check.due("room for one", state(y, 0) * 10 + state(y, 1), HundiHall.GOES_BACK);
        HundiHall z = twoOrders(50);
        check.due("room for the first one alone", state(z, 0) * 10 + state(z, 1), HundiHall.GOES_BACK);
        HundiHall w = twoOrders(49);
        check.due("room for the second one alone", state(w, 0) * 10 + state(w, 1), 10 * HundiHall.GOES_BACK);
        HundiHall v = twoOrders(39);
        check.due("room for none", state(v, 0) * 10 + state(v, 1), 11 * HundiHall.GOES_BACK);
    }

    private static void onItsWayBehindThat() {
        check.part("for each order that is ON_ITS_WAY behind that");
        HundiHall x = Halls.chain(3, 1000);
        x.trust(2, 0, 1000, false);
        x.order(0, 1, 10, 0, 0);
        x.order(0, 2, 10, 0, 0);
        x.pass(1);
        check.due("both are HERE", state(x, 0) * 10 + state(x, 1), 11);
        x.raid(1);
        x.breakWord(2);
        check.due("what is HERE stays so", state(x, 0) * 10 + state(x, 1), 11);
        check.due("with its debts", x.debt(0, 1, false) + x.debt(0, 2, false), 20);
    }

    private static void placesOfAnOrder() {
        check.part("22: -1 if there are not so many; its way, as it is, or was last");
        HundiHall x = at(0);
        check.due("place 0", x.wayOf(0, 0), 0);
        check.due("the last place", x.wayOf(0, 4), 4);
        check.due("behind it", x.wayOf(0, 5), HundiHall.NONE);
        check.due("place 12", x.wayOf(0, 12), HundiHall.NONE);
        check.due("the highest place", x.wayOf(0, Integer.MAX_VALUE), HundiHall.NONE);
        Twins.refused(check, Check.INDEX, "place -1", () -> at(0), y -> y.wayOf(0, -1));
        Twins.refused(check, Check.INDEX, "no order", () -> at(0), y -> y.wayOf(1, 0));
        x.trust(4, 0, 1000, false);
        x.raid(3);
        check.due("a shorter way", Halls.wayTextOf(x, 0), "0-4");
        check.due("behind its last place", x.wayOf(0, 2), HundiHall.NONE);
        x.pass(1);
        check.due("HERE sooner", state(x, 0) * 10 + x.orderOf(0, 3), 11);
        HundiHall y = Halls.chain(12, 1000);
        y.order(0, 11, 10, 0, 0);
        check.due("twelve", y.wayOf(0, 11), 11);
        check.due("no thirteenth", y.wayOf(0, 12), HundiHall.NONE);
        y.pass(10);
        y.raid(11);
        check.due("GOES_BACK", state(y, 0), HundiHall.GOES_BACK);
        check.due("as it was last", Halls.wayTextOf(y, 0), "0-1-2-3-4-5-6-7-8-9-10-11");
    }

    private static HundiHall twelve() {
        HundiHall x = Halls.chain(12, 1000);
        x.order(0, 11, 100, 0, 7);
        return x;
    }

    private static void longestWay() {
        check.part("an order by way of all twelve");
        HundiHall x = twelve();
        x.trust(1, 11, 1000, false);
        x.order(11, 1, 100, 0, 0);
        x.pass(1);
        x.courier(11, 1, 1, 500);
        x.pass(9);
        check.dueThrow(Check.STATE, "ON_ITS_WAY", () -> x.fetch(0, 7));
        x.pass(1);
        check.dueThrow(Check.STATE, "the last one has less cash", () -> x.fetch(0, 7));
        HundiHall y = twelve();
        y.trust(1, 11, 1000, false);
        y.order(11, 1, 100, 0, 0);
        y.pass(11);
        check.due("PAID by the last one", y.fetch(0, 7), HundiHall.PAID);
        check.due("cash of the last one", y.brokerOf(11, 1), 0);
        check.due("cash of the first one", y.brokerOf(0, 1), 100);
        HundiHall z = twelve();
        z.pass(240);
        check.due("too old", state(z, 0), HundiHall.BACK);
        HundiHall w = twelve();
        w.pass(5);
        check.due("lost", w.breakWord(0), 1);
        for (int i = 0; i < 11; i++) {
            check.due("debt then " + i, z.debt(i, i + 1, false) + w.debt(i, i + 1, false), 0);
            check.due("book then " + i, z.debt(i + 1, i, true) + w.debt(i + 1, i, true), 0);
            check.due("worth then " + i, z.brokerOf(i, 3), 0);
        }
        HundiHall v = twelve();
        v.pass(3);
        v.trust(7, 5, 1000, false);
        v.raid(6);
        check.due("a new way to the last one", Halls.wayTextOf(v, 0), "0-1-2-3-4-5-7-8-9-10-11");
        check.due("ON_ITS_WAY", state(v, 0), HundiHall.ON_ITS_WAY);
    }

    private static void shorterWay() {
        check.part("an order whose new way is shorter, going back");
        HundiHall x = at(0);
        x.trust(4, 0, 1000, false);
        x.raid(2);
        check.due("way", Halls.wayTextOf(x, 0), "0-4");
        check.due("debt", x.debt(0, 4, false), 100);
        x.pass(240);
        check.due("BACK", state(x, 0), HundiHall.BACK);
        for (int i = 0; i < 5; i++) {
            for (int j = 0; j < 5; j++) {
                check.due("debt of " + i + " to " + j, x.debt(i, j, false), 0);
                check.due("by the book", x.debt(i, j, true), 0);
            }
        }
    }

    private static void orderOfThings() {
        check.part("too old, then given back, then couriers come: each by rising numbers");
        HundiHall x = Halls.chain(2, 1000);
        x.broker(0, 1000, 0);
        x.order(0, 1, 100, 0, 0);
        x.order(0, 1, 100, 0, 0);
        x.courier(0, 2, 100, 500);
        x.courier(2, 0, 100, 240);
        x.pass(239);
        check.due("both are HERE", state(x, 0) * 10 + state(x, 1), 11);
        x.pass(1);
        check.due("the first by number", state(x, 0) * 10 + state(x, 1), 10 * HundiHall.BACK + HundiHall.GOES_BACK);
        check.due("the courier behind that", x.brokerOf(0, 1), 100);
        x.pass(1);
        check.due("an hour later", state(x, 1), HundiHall.BACK);
        HundiHall y = Halls.chain(2, 1000);
        y.broker(0, 1000, 0);
        y.order(0, 1, 100, 0, 0);
        y.pass(1);
        y.raid(0);
        y.courier(2, 0, 100, 500);
        y.pass(500);
        y.pass(219);
        check.due("RAIDED", y.brokerOf(0, 0) * 10 + state(y, 0), 10 * HundiHall.RAIDED + HundiHall.GOES_BACK);
        y.pass(1);
        check.due("the raid is over ahead of that", y.brokerOf(0, 0) * 10 + state(y, 0), HundiHall.BACK);
        HundiHall z = Halls.chain(2, 1000);
        z.order(0, 1, 100, 0, 0);
        z.pass(239);
        z.raid(1);
        z.pass(1);
        check.due("the last one's raid does not matter", state(z, 0), HundiHall.BACK);
    }
}
