/**
 * Both sides of each boundary that the document names under "Settling" and "Hours, raids, laws, books", and that the
 * promises of these and of asking name. Each part bears the sentence that it holds to.
 */
public final class SettlingBoundaryTests {
    private static final Check check = new Check();

    public static void main(String[] args) {
        payAsFarAsTheDebtGoes();
        deliverAsFarAsTheDebtGoes();
        bothAreGoodToPay();
        noneIsBrokenToDeliver();
        courierHoweverMuch();
        courierHoursLater();
        couriersAtMostForty();
        theOtherOneOwesThen();
        robbedOnTheWay();
        whatARingIs();
        theLeastIsTakenOff();
        triplesRising();
        ringsOfFew();
        cashIsSeized();
        boundOfATown();
        toldAsTheyAreGiven();
        listedNames();
        whoOwesKnows();
        theOtherOneKnows();
        ofAllElseBothKnow();
        takenBackByEachWhoKnew();
        booksAgree();
        whoIsNamed();
        namedByADebt();
        answersOfABroker();
        debtsBelowNought();
        sumsAtTheBoundary();
        noDebtToItself();
        check.end("SettlingBoundaryTests");
    }

    /** 0 owes 1 the amount, both knowing it, with cash of 1000000 and the amount. */
    private static HundiHall owing(int amount) {
        HundiHall x = Halls.richOnes(3);
        Halls.owe(x, 0, 1, amount);
        x.pass(1);
        return x;
    }

    private static void payAsFarAsTheDebtGoes() {
        check.part("Who owes may pay in cash, as far as the debt goes (11)");
        check.due("all but one", owing(100).pay(0, 1, 99), 1);
        check.due("all", owing(100).pay(0, 1, 100), 0);
        check.due("the least", owing(1).pay(0, 1, 1), 0);
        check.due("the most", owing(1000000).pay(0, 1, 1000000), 0);
        Twins.refused(check, Check.STATE, "one more", () -> owing(100), x -> x.pay(0, 1, 101));
        Twins.refused(check, Check.STATE, "who is owed", () -> owing(100), x -> x.pay(1, 0, 1));
        Twins.refused(check, Check.STATE, "no debt", () -> owing(100), x -> x.pay(0, 2, 1));
        HundiHall x = owing(100);
        check.due("a part", x.pay(0, 1, 60), 40);
        check.due("cash", x.brokerOf(0, 1), 1000100 - 60);
        check.due("cash of the other one", x.brokerOf(1, 1), 1000000 - 100 + 60);
        check.due("worth stays", x.brokerOf(0, 3), 1000000);
        check.due("the rest", x.pay(0, 1, 40), 0);
        check.dueThrow(Check.STATE, "none is left", () -> x.pay(0, 1, 1));
        check.due("not by books: what arose is not known yet", unknownDebt().pay(0, 1, 100), 0);
    }

    /** 0 owes 1 100 by an order, of which 1 does not know yet. */
    private static HundiHall unknownDebt() {
        HundiHall x = Halls.chain(2, 1000);
        x.order(0, 1, 100, 0, 0);
        return x;
    }

    private static void deliverAsFarAsTheDebtGoes() {
        check.part("or deliver goods, as far as the debt goes (12)");
        check.due("all but one", owing(100).deliver(0, 1, 99), 1);
        check.due("all", owing(100).deliver(0, 1, 100), 0);
        check.due("the least", owing(1).deliver(0, 1, 1), 0);
        check.due("the most", owing(1000000).deliver(0, 1, 1000000), 0);
        Twins.refused(check, Check.STATE, "one more", () -> owing(100), x -> x.deliver(0, 1, 101));
        Twins.refused(check, Check.STATE, "who is owed", () -> owing(100), x -> x.deliver(1, 0, 1));
        Twins.refused(check, Check.STATE, "no debt", () -> owing(100), x -> x.deliver(0, 2, 1));
        HundiHall x = owing(100);
        x.deliver(0, 1, 100);
        check.due("no cash goes", x.brokerOf(0, 1), 1000100);
        check.due("no cash comes", x.brokerOf(1, 1), 1000000 - 100);
        check.due("debt", x.debt(0, 1, false), 0);
    }

    private static void bothAreGoodToPay() {
        check.part("11: IllegalStateException if one of both is not GOOD");
        for (int i = 0; i < 2; i++) {
            int one = i;
            Twins.Scene raided = () -> {
                HundiHall x = owing(100);
                x.raid(one);
                x.courier(2, 0, 500, 1);
                Halls.pass(x, 719);
                return x;
            };
            Twins.refused(check, Check.STATE, "RAIDED " + i, raided, x -> x.pay(0, 1, 10));
            HundiHall y = raided.make();
            y.pass(1);
            check.due("GOOD again " + i, y.pay(0, 1, 10), 90);
            Twins.refused(check, Check.STATE, "BROKEN " + i, () -> {
                HundiHall x = owing(100);
                x.breakWord(one);
                return x;
            }, x -> x.pay(0, 1, 10));
        }
    }

    private static void noneIsBrokenToDeliver() {
        check.part("12: IllegalStateException if one of both is BROKEN");
        for (int i = 0; i < 2; i++) {
            int one = i;
            HundiHall x = owing(100);
            x.raid(one);
            check.due("RAIDED " + i, x.deliver(0, 1, 10), 90);
            Twins.refused(check, Check.STATE, "BROKEN " + i, () -> {
                HundiHall y = owing(100);
                y.breakWord(one);
                return y;
            }, y -> y.deliver(0, 1, 10));
        }
    }

    private static void courierHoweverMuch() {
        check.part("or send a courier with cash, however much (13)");
        HundiHall x = owing(100);
        check.due("to whom nothing is owed", x.courier(0, 2, 1, 1), 1);
        check.due("more than the debt", x.courier(0, 1, 1000000, 1), 2);
        check.due("all the cash", x.courier(0, 1, 99, 1), 3);
        check.due("cash", x.brokerOf(0, 1), 0);
        check.dueThrow(Check.STATE, "no cash", () -> x.courier(0, 1, 1, 1));
        check.due("who is owed", x.courier(1, 0, 1, 1), 4);
        check.due("just the cash", owing(100).courier(1, 0, 1000000 - 100, 1), 1);
        Twins.refused(check, Check.STATE, "one more than the cash", () -> owing(100),
                y -> y.courier(1, 0, 1000000 - 99, 1));
    }

    private static void courierHoursLater() {
        check.part("who comes some hours later");
        int[] hours = {1, 2, 499, 500};
        for (int late : hours) {
            HundiHall x = owing(100);
            x.pass(3);
            x.courier(0, 1, 60, late);
            check.due("cash goes at once", x.brokerOf(0, 1), 1000100 - 60);
            check.due("on the road", x.sum(5), 60);
            if (late > 1) {
                x.pass(late - 1);
            }
            check.due(late + " hours, one less: debt", x.debt(0, 1, false), 100);
            check.due(late + " hours, one less: cash", x.brokerOf(1, 1), 1000000 - 100);
            x.pass(1);
            check.due(late + " hours: debt", x.debt(0, 1, false), 40);
            check.due(late + " hours: cash", x.brokerOf(1, 1), 1000000 - 40);
            check.due(late + " hours: on the road", x.sum(5), 0);
            x.pass(500);
            check.due("once", x.debt(0, 1, false), 40);
        }
        HundiHall y = owing(100);
        y.courier(0, 1, 60, 10);
        y.raid(0);
        y.breakWord(1);
        y.pass(10);
        check.due("from a RAIDED one to a BROKEN one", y.debt(0, 1, false), 40);
        check.due("cash of the BROKEN one", y.brokerOf(1, 1), 1000000 - 40);
    }

    private static void couriersAtMostForty() {
        check.part("13: the number of the courier, from 0; there are 40 at most");
        HundiHall x = Halls.richOnes(2);
        check.dueThrow(Check.ARGUMENT, "a refused one has no number", () -> x.courier(0, 1, 1, 0));
        for (int i = 0; i < 40; i++) {
            int next = i;
            check.dueThrow(Check.INDEX, "not yet " + i, () -> x.rob(next));
            check.due("the next one", x.courier(0, 1, 1, 500), i);
        }
        check.dueThrow(Check.STATE, "the forty-first", () -> x.courier(0, 1, 1, 500));
        check.dueThrow(Check.INDEX, "there is no 40", () -> x.rob(40));
        check.due("on the road", x.sum(5), 40);
        check.due("cash", x.brokerOf(0, 1), 1000000 - 40);
        check.due("the last one", x.rob(39), 1);
        check.dueThrow(Check.STATE, "that makes no room", () -> x.courier(0, 1, 1, 1));
        x.pass(500);
        check.dueThrow(Check.STATE, "nor does coming", () -> x.courier(0, 1, 1, 1));
        check.due("39 have come", x.brokerOf(1, 1), 1000000 + 39);
    }

    private static void theOtherOneOwesThen() {
        check.part("the debt becomes less by it (or the other one owes then)");
        int[] amounts = {99, 100, 101, 1000000};
        for (int amount : amounts) {
            HundiHall x = owing(100);
            x.courier(0, 1, amount, 1);
            x.pass(1);
            check.due(amount + ": debt", x.debt(0, 1, false), 100 - amount);
            check.due(amount + ": the other way", x.debt(1, 0, false), amount - 100);
            check.due(amount + ": book", x.debt(0, 1, true), 100 - amount);
            check.due(amount + ": the other one's", x.debt(1, 0, true), amount - 100);
            check.due(amount + ": worth", x.brokerOf(0, 3), 1000000);
            check.due(amount + ": the other one's", x.brokerOf(1, 3), 1000000);
        }
    }

    private static void robbedOnTheWay() {
        check.part("A courier who is robbed on the way brings nothing; what was sent is lost (14)");
        HundiHall x = owing(100);
        x.courier(0, 1, 60, 10);
        x.courier(0, 1, 70, 10);
        x.pass(9);
        check.due("an hour ahead of coming", x.rob(1), 60);
        check.due("lost", x.sum(3), 60);
        check.due("on the road", x.sum(5), 70);
        check.dueThrow(Check.STATE, "was robbed", () -> x.rob(1));
        check.dueThrow(Check.STATE, "has come long ago", () -> x.rob(0));
        x.pass(1);
        check.dueThrow(Check.STATE, "has come in this hour", () -> x.rob(2));
        check.dueThrow(Check.STATE, "was robbed ahead of coming", () -> x.rob(1));
        check.due("debt", x.debt(0, 1, false), 30);
        check.due("cash", x.brokerOf(0, 1), 1000100 - 130);
        check.due("cash of the other one", x.brokerOf(1, 1), 1000000 - 100 + 70);
        check.due("lost then", x.sum(3), 60);
        check.due("seized", x.sum(4), 0);
        HundiHall y = Halls.richOnes(2);
        y.courier(0, 1, 1000000, 500);
        check.due("in the hour of sending", y.rob(0), 1000000);
        check.due("lost, of the first one", y.sum(3), 1000000);
        check.due("on the road, of the first one", y.sum(5), 0);
    }

    private static HundiHall triple(int first, int second, int third) {
        HundiHall x = Halls.richOnes(3);
        int[] debts = {first, second, third};
        for (int i = 0; i < 3; i++) {
            if (debts[i] > 0) {
                Halls.owe(x, i, (i + 1) % 3, debts[i]);
            } else if (debts[i] < 0) {
                Halls.owe(x, (i + 1) % 3, i, -debts[i]);
            }
        }
        x.pass(1);
        return x;
    }

    private static void whatARingIs() {
        check.part("A ring are three brokers, each of whom owes the next one, the last one the first one (15)");
        check.due("1, 1, 1", triple(1, 1, 1).ring(), 1);
        check.due("1, 1, 0", triple(1, 1, 0).ring(), 0);
        check.due("0, 1, 1", triple(0, 1, 1).ring(), 0);
        check.due("1, 0, 1", triple(1, 0, 1).ring(), 0);
        check.due("1, 1, -1", triple(1, 1, -1).ring(), 0);
        check.due("-1, -1, -1", triple(-1, -1, -1).ring(), 1);
        check.due("-1, -1, 1", triple(-1, -1, 1).ring(), 0);
        check.due("0, 0, 0", triple(0, 0, 0).ring(), 0);
        check.due("1000000 each", triple(1000000, 1000000, 1000000).ring(), 1000000);
        HundiHall x = triple(1, 1, 0);
        x.ring();
        check.due("what is no ring stays", x.debt(0, 1, false) * 10 + x.debt(1, 2, false), 11);
    }

    private static void theLeastIsTakenOff() {
        check.part("the least of these debts is taken off all three");
        int[][] rows = {{5, 7, 9}, {9, 5, 7}, {7, 9, 5}, {5, 5, 7}, {7, 5, 5}, {5, 7, 5}, {5, 5, 5}};
        for (int[] row : rows) {
            HundiHall x = triple(row[0], row[1], row[2]);
            check.due("taken off each", x.ring(), 5);
            for (int i = 0; i < 3; i++) {
                int next = (i + 1) % 3;
                check.due("what is left", x.debt(i, next, false), row[i] - 5);
                check.due("by the book", x.debt(i, next, true), row[i] - 5);
                check.due("by the other one's", x.debt(next, i, true), 5 - row[i]);
            }
            check.due("once", x.ring(), 0);
            check.due("no cash goes", x.sum(6), 3000000);
        }
    }

    private static void triplesRising() {
        check.part("to look once at all triples of unlike brokers, rising, and to clear each that is a ring then");
        HundiHall x = Halls.richOnes(5);
        Halls.owe(x, 0, 1, 10);
        Halls.owe(x, 1, 2, 10);
        Halls.owe(x, 2, 0, 6);
        Halls.owe(x, 1, 3, 10);
        Halls.owe(x, 3, 0, 3);
        Halls.owe(x, 1, 4, 10);
        Halls.owe(x, 4, 0, 10);
        x.pass(1);
        check.due("6, 3 and what is left, 1", x.ring(), 10);
        check.due("2 to 0", x.debt(2, 0, false), 0);
        check.due("3 to 0", x.debt(3, 0, false), 0);
        check.due("4 to 0", x.debt(4, 0, false), 9);
        check.due("0 to 1", x.debt(0, 1, false), 0);
        HundiHall y = Halls.richOnes(5);
        Halls.owe(y, 4, 3, 5);
        Halls.owe(y, 3, 1, 5);
        Halls.owe(y, 1, 4, 5);
        Halls.owe(y, 3, 0, 4);
        Halls.owe(y, 0, 4, 4);
        y.pass(1);
        check.due("the lowest first one goes first: 4, then 1", y.ring(), 5);
        check.due("3 to 0", y.debt(3, 0, false), 0);
        check.due("3 to 1", y.debt(3, 1, false), 4);
        HundiHall z = Halls.richOnes(12);
        Halls.owe(z, 9, 10, 3);
        Halls.owe(z, 10, 11, 3);
        Halls.owe(z, 11, 9, 3);
        z.pass(1);
        check.due("the last three", z.ring(), 3);
    }

    private static void ringsOfFew() {
        check.part("15: what is taken off each of the three debts, of all rings together");
        check.due("no brokers", new HundiHall().ring(), 0);
        check.due("one broker", Halls.richOnes(1).ring(), 0);
        check.due("two brokers", owing(100).ring(), 0);
        HundiHall x = Halls.richOnes(6);
        for (int i = 0; i < 6; i++) {
            Halls.owe(x, i, i < 3 ? (i + 1) % 3 : 3 + (i - 2) % 3, 1000000);
        }
        x.pass(1);
        check.due("two rings", x.ring(), 2000000);
        HundiHall y = Halls.chain(3, 1000);
        y.trust(0, 2, 1000, false);
        y.order(0, 1, 5, 0, 0);
        y.order(1, 2, 5, 0, 0);
        y.order(2, 0, 5, 0, 0);
        check.due("debts that are not known to all", y.ring(), 5);
        check.due("book of who is owed", y.debt(1, 0, true), 5);
        y.pass(1);
        check.due("as it comes to know", y.debt(1, 0, true), 0);
        HundiHall z = triple(5, 5, 5);
        z.raid(0);
        z.breakWord(1);
        check.due("whatever they are", z.ring(), 5);
    }

    private static void cashIsSeized() {
        check.part("With a raid the cash of a broker is seized (7)");
        HundiHall x = new HundiHall();
        int[] cash = {0, 1, 1000000};
        for (int amount : cash) {
            x.broker(0, amount, 0);
        }
        check.due("none", x.raid(0), 0);
        check.due("the least", x.raid(1), 1);
        check.due("the most that is told", x.raid(2), 1000000);
        check.due("together", x.sum(4), 1000001);
        check.due("cash", x.sum(6), 0);
        HundiHall y = owing(100);
        y.courier(0, 1, 30, 500);
        check.due("not what is on the road", y.raid(0), 1000100 - 30);
        check.due("on the road", y.sum(5), 30);
        check.due("the debt stays", y.debt(0, 1, false), 100);
        check.due("worth", y.brokerOf(0, 3), -100);
        Halls.pass(y, 720);
        check.due("it does not come again", y.brokerOf(0, 1), 0);
        check.due("raid again", y.raid(0), 0);
        check.due("together", y.sum(4), 1000070);
        HundiHall z = owing(100);
        z.breakWord(0);
        check.due("no raid, no cash seized", z.brokerOf(0, 1), 1000100);
        HundiHall w = Halls.chain(2, 1000000);
        w.trust(1, 0, 1000000, true);
        w.festival();
        w.order(0, 1, 1000000, 0, 0);
        w.order(0, 1, 1000000, 0, 0);
        check.due("more than can be told", w.raid(0), 2000000);
    }

    /** How many orders are told of one of the amount, by the bound. */
    private static int told(int bound, int amount) {
        HundiHall x = Halls.chain(2, 1000000);
        x.law(0, bound);
        x.order(0, 1, amount, 0, 0);
        return x.law(0, 0);
    }

    private static void boundOfATown() {
        check.part("orders of an amount above it are told to the town of the first broker (16)");
        check.due("at the bound", told(500, 500), 0);
        check.due("above the bound", told(500, 501), 1);
        check.due("below the bound", told(500, 499), 0);
        check.due("bound 0, the least amount", told(0, 1), 1);
        check.due("bound 1, the least amount", told(1, 1), 0);
        check.due("bound 1000000, the most", told(1000000, 1000000), 0);
        check.due("bound 999999, the most", told(999999, 1000000), 1);
        HundiHall x = Halls.chain(2, 1000000);
        x.order(0, 1, 1000000, 0, 0);
        check.due("1000000 at first", x.law(0, 0), 0);
        HundiHall y = Halls.chain(8, 1000000);
        for (int town = 0; town < 8; town++) {
            y.law(town, 10);
        }
        y.rate(0, 100);
        y.rate(7, 100);
        y.order(0, 7, 10, 0, 0);
        check.due("the amount, not with fees", y.law(0, 10), 0);
        y.order(0, 7, 11, 0, 0);
        for (int town = 0; town < 8; town++) {
            check.due("town " + town, y.law(town, 10), town == 0 ? 1 : 0);
        }
        y.order(6, 7, 11, 0, 0);
        check.due("town 6", y.law(6, 10), 1);
        check.due("town 7", y.law(7, 10), 0);
    }

    private static void toldAsTheyAreGiven() {
        check.part("are told, as they are given");
        HundiHall x = Halls.chain(3, 1000);
        x.broker(0, 0, 0);
        x.trust(2, 3, 1000, false);
        x.order(0, 2, 100, 0, 0);
        check.due("a bound that comes later", x.law(0, 50), 0);
        check.due("does not count", x.law(0, 50), 0);
        x.order(0, 2, 51, 0, 0);
        x.order(3, 2, 51, 0, 0);
        check.due("two brokers of a town", x.law(0, 1000000), 2);
        check.due("a higher bound takes none off", x.law(0, 50), 2);
        check.dueThrow(Check.STATE, "no way", () -> x.order(0, 3, 60, 0, 0));
        check.dueThrow(Check.STATE, "no way", () -> x.order(0, 2, 1001, 0, 0));
        x.list(0);
        check.dueThrow(Check.STATE, "listed", () -> x.order(0, 2, 60, 0, 0));
        check.due("refused ones are not told", x.law(0, 50), 2);
        x.raid(2);
        x.pass(240);
        check.due("what went back was told", x.law(0, 50), 2);
        x.raid(0);
        check.due("nor does a raid take any off", x.law(0, 50), 2);
    }

    private static void listedNames() {
        check.part("Names, 0 to 19, may be listed: orders for these are refused (17)");
        for (int name = 0; name < 20; name++) {
            int listed = name;
            Twins.Scene scene = () -> {
                HundiHall x = Halls.chain(2, 1000);
                x.list(listed);
                return x;
            };
            Twins.refused(check, Check.STATE, "name " + name, scene, x -> x.order(0, 1, 1, listed, 0));
            HundiHall y = scene.make();
            check.due("another name", y.order(0, 1, 1, (name + 1) % 20, 0), 0);
            check.due("one more name", y.order(0, 1, 1, (name + 19) % 20, 0), 1);
            check.due("off the list", y.list(name), false);
            check.due("then", y.order(0, 1, 1, name, 0), 2);
            check.due("on it again", y.list(name), true);
            check.due("what was given goes on", y.pass(1) + y.orderOf(2, 0), 1 + HundiHall.HERE);
        }
    }

    private static void whoOwesKnows() {
        check.part("of the debts of an order who owes knows as they arise");
        HundiHall x = Halls.chain(4, 1000);
        x.order(0, 3, 100, 0, 0);
        for (int i = 0; i < 3; i++) {
            check.due("who owes, " + i, x.debt(i, i + 1, true), 100);
            check.due("who is owed, " + (i + 1), x.debt(i + 1, i, true), 0);
        }
        check.due("others", x.debt(0, 2, true) + x.debt(3, 0, true), 0);
    }

    private static void theOtherOneKnows() {
        check.part("and the other one when the message comes to that one");
        HundiHall x = Halls.chain(4, 1000);
        x.order(0, 3, 100, 0, 0);
        for (int hour = 0; hour < 5; hour++) {
            for (int i = 1; i < 4; i++) {
                check.due("hour " + hour + ", broker " + i, x.debt(i, i - 1, true), hour >= i ? -100 : 0);
            }
            x.pass(1);
        }
    }

    private static void ofAllElseBothKnow() {
        check.part("of all else both know at once");
        HundiHall x = unknownDebt();
        x.pay(0, 1, 30);
        check.due("pay: who owes", x.debt(0, 1, true), 70);
        check.due("pay: who is owed", x.debt(1, 0, true), 30);
        x.deliver(0, 1, 20);
        check.due("deliver: who owes", x.debt(0, 1, true), 50);
        check.due("deliver: who is owed", x.debt(1, 0, true), 50);
        x.courier(0, 1, 10, 1);
        check.due("courier: not as that one goes", x.debt(0, 1, true), 50);
        x.pass(1);
        check.due("courier: as that one comes", x.debt(0, 1, true), 40);
        check.due("the other one's, by message and all", x.debt(1, 0, true), -40);
    }

    private static void takenBackByEachWhoKnew() {
        check.part("of what is taken back each who knew of the debt");
        for (int place = 0; place < 3; place++) {
            HundiHall x = Halls.chain(4, 1000);
            x.order(0, 3, 100, 0, 0);
            x.deliver(0, 1, 10);
            x.deliver(1, 2, 20);
            x.deliver(2, 3, 30);
            if (place > 0) {
                x.pass(place);
            }
            x.raid(3);
            check.due("GOES_BACK", x.orderOf(0, 0), HundiHall.GOES_BACK);
            for (int i = 0; i < 3; i++) {
                int settled = 10 * (i + 1);
                check.due("at " + place + ", debt " + i, x.debt(i, i + 1, false), -settled);
                check.due("at " + place + ", who owed " + i, x.debt(i, i + 1, true), -settled);
                check.due("at " + place + ", who was owed " + (i + 1), x.debt(i + 1, i, true), settled);
            }
            x.pass(3);
            check.due("the message does not go on", x.debt(3, 2, true), 30);
        }
    }

    private static void booksAgree() {
        check.part("Two books agree if they tell the same debt (20)");
        HundiHall x = Halls.chain(3, 1000);
        check.due("no debt", x.agree(0, 1), true);
        check.due("one's own", x.agree(1, 1), true);
        x.trust(0, 1, 1000, false);
        x.order(0, 1, 1, 0, 0);
        check.due("a debt of 1 that one does not know", x.agree(0, 1), false);
        check.due("the other way round", x.agree(1, 0), false);
        check.due("others", x.agree(0, 2), true);
        x.order(1, 0, 1, 0, 0);
        check.due("both owe 1, as each knows", x.debt(0, 1, true) * 10 + x.debt(1, 0, true), 11);
        check.due("they do not agree on that", x.agree(0, 1), false);
        check.due("though there is no debt", x.debt(0, 1, false), 0);
        x.pass(1);
        check.due("then they do", x.agree(0, 1), true);
        HundiHall y = Halls.chain(2, 1000);
        y.order(0, 1, 100, 0, 0);
        y.pass(1);
        check.due("the same debt, told by both", y.debt(0, 1, true) * 1000 + y.debt(1, 0, true), 99900);
        check.due("agree", y.agree(0, 1) && y.agree(1, 0), true);
        y.order(0, 1, 1, 0, 0);
        check.due("1 more that one does not know", y.agree(0, 1), false);
        y.pay(0, 1, 101);
        check.due("paid, but unknown", y.agree(0, 1), false);
        y.pass(1);
        check.due("known", y.agree(0, 1), true);
    }

    private static void whoIsNamed() {
        check.part("An inquiry names each broker who was ever raided (24)");
        check.due("no brokers", new HundiHall().inquiry(), 0);
        HundiHall x = Halls.richOnes(12);
        check.due("none raided", x.inquiry(), 0);
        x.raid(0);
        check.due("the first one", x.inquiry(), 1);
        x.raid(11);
        check.due("the last one", x.inquiry(), 1 + 2048);
        Halls.pass(x, 720);
        check.due("GOOD again", x.brokerOf(0, 0) * 10 + x.inquiry(), 2049);
        x.breakWord(0);
        check.due("BROKEN then", x.inquiry(), 2049);
        x.breakWord(5);
        check.due("BROKEN alone", x.inquiry(), 2049);
        for (int i = 1; i < 11; i++) {
            if (i != 5) {
                x.raid(i);
            }
        }
        check.due("all but one", x.inquiry(), 4095 - 32);
    }

    private static void namedByADebt() {
        check.part("each one of whom the book of a broker who is named tells a debt that is not 0, and so on");
        HundiHall x = owing(1);
        x.raid(0);
        check.due("owes 1", x.inquiry(), 3);
        HundiHall y = owing(1);
        y.raid(1);
        check.due("is owed 1", y.inquiry(), 3);
        y.deliver(0, 1, 1);
        check.due("is owed 0", y.inquiry(), 2);
        HundiHall z = unknownDebt();
        int rich = z.broker(0, 1000, 0);
        Halls.owe(z, 1, rich, 50);
        z.pass(1);
        z.order(0, 1, 100, 0, 0);
        z.pay(0, 1, 100);
        z.raid(rich);
        check.due("its book tells 0 to be had, without the order it does not know", z.debt(1, 0, true), 0);
        check.due("so that none is named by that", z.inquiry(), 2 + 4);
        z.pass(1);
        check.due("by its book then", z.inquiry(), 1 + 2 + 4);
        HundiHall w = unknownDebt();
        w.raid(0);
        check.due("by the book of who owes", w.inquiry(), 3);
        HundiHall v = Halls.chain(3, 1000);
        v.order(0, 1, 10, 0, 0);
        v.order(1, 2, 10, 0, 0);
        v.raid(0);
        check.due("and so on, by the book of the next one", v.inquiry(), 7);
        HundiHall u = unknownDebt();
        u.deliver(0, 1, 100);
        u.raid(0);
        check.due("its book tells 0, the other one's 100", u.inquiry(), 1);
        u.raid(1);
        check.due("the other one's", u.inquiry(), 3);
        HundiHall t = Halls.richOnes(12);
        for (int i = 11; i > 0; i--) {
            Halls.owe(t, i, i - 1, 1);
        }
        t.pass(1);
        t.raid(0);
        check.due("twelve from the first", t.inquiry(), 4095);
        HundiHall s = Halls.richOnes(12);
        for (int i = 0; i < 11; i++) {
            Halls.owe(s, i, i + 1, 1);
        }
        s.pass(1);
        s.raid(11);
        check.due("twelve from the last", s.inquiry(), 4095);
        s.deliver(5, 6, 1);
        check.due("as far as the debts go", s.inquiry(), 4095 - 63);
    }

    private static void answersOfABroker() {
        check.part("18: GOOD to BROKEN, the cash, the town, the cash and what others owe it, less what it owes");
        HundiHall x = owing(100);
        Halls.owe(x, 2, 0, 30);
        x.pass(1);
        check.due("cash", x.brokerOf(0, 1), 1000100 - 30);
        check.due("worth", x.brokerOf(0, 3), 1000000);
        x.raid(0);
        check.due("worth of a RAIDED one", x.brokerOf(0, 3), 30 - 100);
        check.due("RAIDED", x.brokerOf(0, 0), HundiHall.RAIDED);
        x.breakWord(0);
        check.due("worth of a BROKEN one", x.brokerOf(0, 3), 30 - 100);
        check.due("BROKEN", x.brokerOf(0, 0), HundiHall.BROKEN);
        check.due("town 0", x.brokerOf(0, 2), 0);
        check.due("town 7", Halls.richOnes(8).brokerOf(7, 2), 7);
        check.due("by debts, not by books", unknownDebt().brokerOf(1, 3), 100);
    }

    private static void debtsBelowNought() {
        check.part("19: below 0 if it is owed that; 0 of one to itself");
        HundiHall x = owing(100);
        check.due("owes", x.debt(0, 1, false), 100);
        check.due("is owed", x.debt(1, 0, false), -100);
        check.due("owes, by its book", x.debt(0, 1, true), 100);
        check.due("is owed, by its book", x.debt(1, 0, true), -100);
        check.due("neither", x.debt(0, 2, false), 0);
        HundiHall y = Halls.richOnes(12);
        for (int i = 0; i < 11; i++) {
            Halls.owe(y, i, 11, 1000);
        }
        y.pass(1);
        check.due("of the last one", y.debt(11, 0, false), -1000);
        check.due("to the last one", y.debt(10, 11, true), 1000);
    }

    private static void noDebtToItself() {
        check.part("19, 20: of one to itself");
        HundiHall x = owing(100);
        for (int i = 0; i < 3; i++) {
            check.due("debt of " + i, x.debt(i, i, false), 0);
            check.due("by the book", x.debt(i, i, true), 0);
            check.due("agree", x.agree(i, i), true);
        }
        x.breakWord(0);
        check.due("of a BROKEN one", x.debt(0, 0, true), 0);
        check.due("agree", x.agree(0, 0), true);
    }

    private static void sumsOfAFullHall() {
        HundiHall x = Halls.richOnes(12);
        x.trust(1, 0, 1000, false);
        for (int i = 0; i < 40; i++) {
            x.order(0, 1, 1, 0, 0);
            x.courier(2, 3, 1, 500);
        }
        x.pass(1);
        x.fetch(0, 0);
        x.fetch(39, 0);
        x.rob(0);
        x.rob(39);
        x.raid(11);
        check.due("given by 40", x.sum(0), 40);
        check.due("paid out, of the first and the last order", x.sum(1), 2);
        check.due("not yet given back", x.sum(2), 0);
        check.due("of the first and the last courier", x.sum(3), 2);
        check.due("seized, of the last one", x.sum(4), 1000000);
        check.due("carried by 38", x.sum(5), 38);
        check.due("cash of 12", x.sum(6), 12000000 + 40 - 2 - 40 - 1000000);
        check.due("LOST", x.sum(7), 0);
        x.pass(239);
        check.due("given back of 38", x.sum(2), 38);
    }

    private static void sumsAtTheBoundary() {
        check.part("25: sums");
        HundiHall x = new HundiHall();
        for (int what = 0; what < 8; what++) {
            check.due("of nothing, " + what, x.sum(what), 0);
        }
        HundiHall y = Halls.richOnes(12);
        check.due("all cash that can be told", y.sum(6), 12000000);
        for (int i = 0; i < 12; i++) {
            check.due("worth of each of twelve", y.brokerOf(i, 3), 1000000);
        }
        sumsOfAFullHall();
        HundiHall z = Halls.chain(2, 1000000);
        z.trust(1, 0, 1000000, true);
        for (int i = 0; i < 40; i++) {
            z.order(0, 1, 1000000, 0, 0);
            z.deliver(0, 1, 1000000);
        }
        check.due("the most orders of the most", z.sum(0), 40000000);
        check.due("cash of the first one", z.brokerOf(0, 1), 40000000);
        check.due("lost together", z.breakWord(0) + z.sum(7), 40 + 40000000);
        check.due("debt the other way", z.debt(1, 0, false), 40000000);
        check.due("worth", z.brokerOf(1, 3), -40000000);
        HundiHall w = Halls.chain(2, 1000000);
        w.broker(0, 1000000, 0);
        w.order(0, 1, 1000, 0, 7);
        w.order(0, 1, 1000, 0, 7);
        w.courier(2, 1, 2000, 1);
        w.pass(1);
        check.due("nothing is paid out yet", w.sum(1), 0);
        w.fetch(0, 7);
        check.due("paid out", w.sum(1), 1000);
        w.pass(239);
        check.due("given back", w.sum(2), 1000);
        check.due("paid out as before", w.sum(1), 1000);
        check.due("given as before", w.sum(0), 2000);
        check.due("of LOST orders", w.breakWord(0) + w.sum(7), 0);
    }
}
