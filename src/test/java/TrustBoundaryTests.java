/**
 * Both sides of each boundary that the document names under "What it is", "Brokers, trust" and "Ways", and that the
 * promises of these name. Each part bears the sentence that it holds to.
 */
public final class TrustBoundaryTests {
    private static final Check check = new Check();

    public static void main(String[] args) {
        lastCalls();
        hoursFromNought();
        brokersAtMostTwelve();
        raidedFor720Hours();
        raidedLaterAgain();
        brokenForGood();
        limitNoughtAtFirst();
        limitSetAnew();
        doubledInAFestival();
        doubledByThatTrustAlone();
        doubledAtTheMost();
        noneTrustsABrokenOne();
        setOffAtOnce();
        byWayOfOthersOrNot();
        feesAreCut();
        owesTheFeesBehind();
        allAreGood();
        atMostTheLimit();
        atMostTheLimitWithDebts();
        atMostTheLimitAtEachStep();
        leastFees();
        fewestBrokers();
        lowerBroker();
        ratesFromNowOn();
        placesOfAWay();
        check.end("TrustBoundaryTests");
    }

    private static String way(HundiHall x, int first, int last, int amount) {
        return Halls.wayText(x, first, last, amount);
    }

    private static void lastCalls() {
        check.part("What it is: an object is used for at most 512 calls");
        HundiHall x = new HundiHall();
        for (int i = 1; i <= 511; i++) {
            check.due("call " + i, x.festival(), i % 2 == 1);
        }
        check.due("call 512", x.festival(), false);
        HundiHall y = Halls.chain(2, 1000000);
        for (int i = 0; i < 490; i++) {
            y.pass(500);
        }
        check.due("order in a late hour", y.order(0, 1, 1000000, 0, 0), 0);
        check.due("its hour", y.orderOf(0, 5), 245000);
        y.pass(239);
        check.due("not too old", y.orderOf(0, 0), HundiHall.HERE);
        check.due("raid in a late hour", y.raid(1), 0);
        check.due("hour", y.pass(1), 245240);
        check.due("too old", y.orderOf(0, 0), HundiHall.BACK);
        Halls.pass(y, 718);
        check.due("RAIDED", y.brokerOf(1, 0), HundiHall.RAIDED);
        y.pass(1);
        check.due("GOOD", y.brokerOf(1, 0), HundiHall.GOOD);
    }

    private static void hoursFromNought() {
        check.part("Hours are counted from 0 (1, 10, 23)");
        HundiHall x = Halls.chain(2, 100);
        x.order(0, 1, 1, 0, 0);
        check.due("hour of an order at once", x.orderOf(0, 5), 0);
        check.due("pass(1)", x.pass(1), 1);
        x.order(0, 1, 1, 0, 0);
        check.due("hour of an order then", x.orderOf(1, 5), 1);
        check.due("pass(500)", x.pass(500), 501);
        check.due("pass(1) again", x.pass(1), 502);
        check.due("hour of the first order as before", x.orderOf(0, 5), 0);
    }

    private static void brokersAtMostTwelve() {
        check.part("Brokers are numbered from 0, at most 12");
        HundiHall x = new HundiHall();
        check.due("the first one", x.broker(7, 1000000, 100), 0);
        check.dueThrow(Check.ARGUMENT, "a refused one", () -> x.broker(7, 1000001, 100));
        for (int i = 1; i < 12; i++) {
            int next = i;
            check.dueThrow(Check.INDEX, "not yet " + i, () -> x.brokerOf(next, 0));
            check.due("the next one", x.broker(0, 0, 0), i);
            check.due("there is " + i, x.brokerOf(i, 0), HundiHall.GOOD);
        }
        check.dueThrow(Check.STATE, "the thirteenth", () -> x.broker(0, 0, 0));
        check.dueThrow(Check.INDEX, "there is no 12", () -> x.brokerOf(12, 0));
        x.breakWord(11);
        check.dueThrow(Check.STATE, "a BROKEN one makes no room", () -> x.broker(0, 0, 0));
        check.due("all cash", x.sum(6), 1000000);
    }

    /** 0, 1, 2 in a row and a giver, 3; 1 is raided in the hour 5, and gets cash. */
    private static HundiHall raidedInHourFive(int hours) {
        HundiHall x = Halls.chain(3, 1000);
        x.broker(3, 1000, 0);
        x.pass(5);
        x.raid(1);
        x.courier(3, 1, 100, 1);
        Halls.pass(x, hours);
        return x;
    }

    private static void raidedFor720Hours() {
        check.part("RAIDED for 720 hours");
        HundiHall x = raidedInHourFive(719);
        check.due("719 hours", x.brokerOf(1, 0), HundiHall.RAIDED);
        check.due("no way by it", way(x, 0, 2, 10), "");
        check.due("no cash is seized again", x.sum(4), 0);
        Twins.Scene raided = () -> raidedInHourFive(719);
        Twins.refused(check, Check.STATE, "no raid", raided, y -> y.raid(1));
        Twins.refused(check, Check.STATE, "no pay", raided, y -> y.pay(1, 3, 1));
        Twins.refused(check, Check.STATE, "no courier", raided, y -> y.courier(1, 3, 1, 1));
        Twins.refused(check, Check.STATE, "no order", raided, y -> y.order(1, 2, 1, 0, 0));
        check.due("hour 725", x.pass(1), 725);
        check.due("720 hours", x.brokerOf(1, 0), HundiHall.GOOD);
        check.due("a way by it", way(x, 0, 2, 10), "0-1-2");
        check.due("pay", x.pay(1, 3, 1), 99);
        check.due("courier", x.courier(1, 3, 1, 1), 1);
        check.due("order", x.order(1, 2, 1, 0, 0), 0);
        check.due("raid", x.raid(1), 99);
    }

    private static void raidedLaterAgain() {
        check.part("RAIDED for 720 hours, each time");
        HundiHall x = Halls.richOnes(2);
        x.raid(0);
        Halls.pass(x, 720);
        x.raid(0);
        x.raid(1);
        Halls.pass(x, 719);
        check.due("719 hours behind the second raid", x.brokerOf(0, 0), HundiHall.RAIDED);
        check.due("719 hours behind the other one's", x.brokerOf(1, 0), HundiHall.RAIDED);
        x.pass(1);
        check.due("720 hours behind the second raid", x.brokerOf(0, 0), HundiHall.GOOD);
        check.due("720 hours behind the other one's", x.brokerOf(1, 0), HundiHall.GOOD);
        check.due("ever raided", x.inquiry(), 3);
    }

    private static void brokenForGood() {
        check.part("BROKEN for good");
        HundiHall x = Halls.chain(3, 1000);
        x.raid(0);
        x.breakWord(0);
        x.breakWord(1);
        check.due("a RAIDED one", x.brokerOf(0, 0), HundiHall.BROKEN);
        check.due("a GOOD one", x.brokerOf(1, 0), HundiHall.BROKEN);
        Halls.pass(x, 720);
        check.due("as the raid would be over", x.brokerOf(0, 0), HundiHall.BROKEN);
        Halls.pass(x, 2000);
        check.due("later", x.brokerOf(0, 0), HundiHall.BROKEN);
        check.due("the other one", x.brokerOf(1, 0), HundiHall.BROKEN);
        check.due("another one", x.brokerOf(2, 0), HundiHall.GOOD);
        check.dueThrow(Check.STATE, "no raid", () -> x.raid(0));
        check.dueThrow(Check.STATE, "no second word", () -> x.breakWord(0));
    }

    private static HundiHall two(int limit, boolean isKin) {
        HundiHall x = Halls.chain(2, 0);
        x.trust(1, 0, limit, isKin);
        return x;
    }

    private static void limitNoughtAtFirst() {
        check.part("Trust up to a limit, 0 at first (4)");
        HundiHall x = new HundiHall();
        x.broker(0, 1000, 0);
        x.broker(0, 1000, 0);
        check.due("none at first", way(x, 0, 1, 1), "");
        x.festival();
        check.due("none in a festival", way(x, 0, 1, 1), "");
        check.due("limit 0", way(two(0, true), 0, 1, 1), "");
        check.due("limit 1, amount 1", way(two(1, false), 0, 1, 1), "0-1");
        check.due("limit 1, amount 2", way(two(1, false), 0, 1, 2), "");
        check.due("limit 1, the other way", way(two(1, false), 1, 0, 1), "");
        check.due("limit 1000000, amount 1000000", way(two(1000000, false), 0, 1, 1000000), "0-1");
        check.due("limit 999999, amount 1000000", way(two(999999, false), 0, 1, 1000000), "");
        Twins.refused(check, Check.STATE, "order at first", () -> two(0, false), y -> y.order(0, 1, 1, 0, 0));
        Twins.refused(check, Check.STATE, "order above 1", () -> two(1, false), y -> y.order(0, 1, 2, 0, 0));
        check.due("order of 1", two(1, false).order(0, 1, 1, 0, 0), 0);
    }

    private static void limitSetAnew() {
        check.part("4: lets a broker trust another one, anew each time");
        HundiHall x = two(10, true);
        x.order(0, 1, 10, 0, 0);
        x.trust(1, 0, 5, false);
        check.due("the debt stays", x.debt(0, 1, false), 10);
        check.due("the order stays", x.orderOf(0, 0), HundiHall.ON_ITS_WAY);
        check.due("no more", way(x, 0, 1, 1), "");
        x.trust(1, 0, 11, false);
        check.due("one more", way(x, 0, 1, 1) + way(x, 0, 1, 2), "0-1");
        x.festival();
        check.due("kin no more", way(x, 0, 1, 2), "");
        x.trust(1, 0, 11, true);
        check.due("kin again", way(x, 0, 1, 12) + way(x, 0, 1, 13), "0-1");
    }

    private static void doubledInAFestival() {
        check.part("doubled while there is a festival (5)");
        HundiHall x = two(7, true);
        check.due("before", way(x, 0, 1, 7) + way(x, 0, 1, 8), "0-1");
        check.due("it begins", x.festival(), true);
        check.due("twice", way(x, 0, 1, 14), "0-1");
        check.due("one more than twice", way(x, 0, 1, 15), "");
        check.due("it ends", x.festival(), false);
        check.due("after", way(x, 0, 1, 7) + way(x, 0, 1, 8), "0-1");
        check.due("it begins again", x.festival(), true);
        check.due("twice, not four times", way(x, 0, 1, 14) + way(x, 0, 1, 15), "0-1");
        HundiHall y = two(0, true);
        y.festival();
        check.due("twice 0", way(y, 0, 1, 1), "");
        y.trust(1, 0, 1, true);
        check.due("trust that is told in it", way(y, 0, 1, 2) + way(y, 0, 1, 3), "0-1");
        Twins.Scene feast = () -> {
            HundiHall z = two(7, true);
            z.festival();
            return z;
        };
        Twins.refused(check, Check.STATE, "order of 15", feast, z -> z.order(0, 1, 15, 0, 0));
        check.due("order of 14", feast.make().order(0, 1, 14, 0, 0), 0);
    }

    private static void doubledByThatTrustAlone() {
        check.part("if both are kin by that trust");
        HundiHall x = two(7, false);
        x.trust(0, 1, 7, true);
        x.festival();
        check.due("no kin by that", way(x, 0, 1, 7) + way(x, 0, 1, 8), "0-1");
        check.due("kin by the other trust", way(x, 1, 0, 14) + way(x, 1, 0, 15), "1-0");
    }

    private static void doubledAtTheMost() {
        check.part("doubled, with the highest limit");
        HundiHall x = two(1000000, true);
        x.festival();
        x.order(0, 1, 1000000, 0, 0);
        x.order(0, 1, 999999, 0, 0);
        check.due("the last one of 2000000", way(x, 0, 1, 1) + way(x, 0, 1, 2), "0-1");
        x.order(0, 1, 1, 0, 0);
        check.due("debt", x.debt(0, 1, false), 2000000);
        check.due("all is used", way(x, 0, 1, 1), "");
        x.festival();
        x.deliver(0, 1, 1000000);
        check.due("at the single limit", way(x, 0, 1, 1), "");
        x.deliver(0, 1, 1);
        check.due("one below it", way(x, 0, 1, 1) + way(x, 0, 1, 2), "0-1");
    }

    private static void noneTrustsABrokenOne() {
        check.part("none trusts a BROKEN one");
        HundiHall x = Halls.chain(3, 1000000);
        x.trust(0, 1, 1000, false);
        x.order(1, 0, 500, 0, 0);
        check.due("GOOD, with a debt the other way", way(x, 0, 1, 1), "0-1");
        x.breakWord(0);
        check.due("BROKEN", way(x, 0, 1, 1), "");
        x.trust(1, 0, 1000000, true);
        x.festival();
        check.due("whatever is told then", way(x, 0, 1, 1), "");
        check.due("nor to it", way(x, 1, 0, 1), "");
        check.due("of others", way(x, 1, 2, 1), "1-2");
    }

    private static void setOffAtOnce() {
        check.part("what is owed both ways is set off at once");
        int[] back = {99, 100, 101};
        for (int amount : back) {
            HundiHall x = two(1000, false);
            x.trust(0, 1, 1000, false);
            x.order(0, 1, 100, 0, 0);
            x.order(1, 0, amount, 0, 0);
            check.due("100 less " + amount, x.debt(0, 1, false), 100 - amount);
            check.due("the other way", x.debt(1, 0, false), amount - 100);
            check.due("worth", x.brokerOf(1, 3), 100);
        }
    }

    private static void byWayOfOthersOrNot() {
        check.part("from a first broker to a last one, by way of others or not, all unlike");
        HundiHall x = Halls.chain(12, 1000);
        check.due("not by others", way(x, 4, 5, 10), "4-5");
        check.due("by one", way(x, 4, 6, 10), "4-5-6");
        check.due("by all", way(x, 0, 11, 10), "0-1-2-3-4-5-6-7-8-9-10-11");
        x.trust(0, 11, 1000, false);
        check.due("round", way(x, 5, 4, 10), "5-6-7-8-9-10-11-0-1-2-3-4");
        HundiHall y = new HundiHall();
        check.due("one broker", y.broker(0, 1000, 0), 0);
        check.dueThrow(Check.ARGUMENT, "no way to itself", () -> y.way(0, 0, 1, 0));
    }

    private static int feeOf(int amount, int rate) {
        HundiHall x = two(1000000, false);
        x.rate(0, rate);
        x.order(0, 1, amount, 0, 0);
        return x.orderOf(0, 2) - amount;
    }

    private static void feesAreCut() {
        check.part("The fee is the amount times the rate, by 1000, cut");
        int[][] rows = {
            {999, 1, 0}, {1000, 1, 1}, {1999, 1, 1}, {2000, 1, 2}, {9, 100, 0}, {10, 100, 1}, {19, 100, 1},
            {20, 100, 2}, {10, 99, 0}, {11, 99, 1}, {1, 100, 0}, {1, 0, 0}, {1000000, 0, 0}, {1000000, 1, 1000},
            {1000000, 100, 100000}, {999999, 100, 99999}, {999999, 99, 98999},
        };
        for (int[] row : rows) {
            check.due(row[0] + " by " + row[1], feeOf(row[0], row[1]), row[2]);
        }
        HundiHall x = Halls.chain(3, 1000000);
        for (int i = 0; i < 3; i++) {
            x.rate(i, 1);
        }
        x.order(0, 2, 999, 0, 0);
        check.due("each by itself, 999", x.orderOf(0, 2), 999);
        x.order(0, 2, 1999, 0, 0);
        check.due("each by itself, 1999", x.orderOf(1, 2), 1999 + 3);
    }

    private static void owesTheFeesBehind() {
        check.part("each but the last owes the next one the amount and the fees of that one and all behind it");
        HundiHall x = Halls.chain(3, 5000);
        x.rate(0, 7);
        x.rate(1, 20);
        x.rate(2, 30);
        x.order(0, 2, 1000, 0, 0);
        check.due("given", x.orderOf(0, 2), 1057);
        check.due("cash of the first one", x.brokerOf(0, 1), 1057);
        check.due("the first one owes", x.debt(0, 1, false), 1050);
        check.due("the next one owes", x.debt(1, 2, false), 1030);
        check.due("the last one owes none", x.debt(2, 0, false), 0);
        check.due("worth of the first one is its fee", x.brokerOf(0, 3), 7);
        check.due("worth of the next one is its fee", x.brokerOf(1, 3), 20);
        check.due("worth of the last one is amount and fee", x.brokerOf(2, 3), 1030);
    }

    private static void allAreGood() {
        check.part("A way can be if all its brokers are GOOD");
        for (int i = 0; i < 3; i++) {
            int one = i;
            HundiHall x = Halls.chain(3, 1000);
            check.due("GOOD", way(x, 0, 2, 10), "0-1-2");
            x.raid(i);
            check.due("RAIDED " + i, way(x, 0, 2, 10), "");
            Halls.pass(x, 720);
            check.due("GOOD again", way(x, 0, 2, 10), "0-1-2");
            x.breakWord(i);
            check.due("BROKEN " + i, way(x, 0, 2, 10), "");
            Twins.refused(check, Check.STATE, "order, RAIDED " + i, () -> {
                HundiHall y = Halls.chain(3, 1000);
                y.raid(one);
                return y;
            }, y -> y.order(0, 2, 10, 0, 0));
            Twins.refused(check, Check.STATE, "order, BROKEN " + i, () -> {
                HundiHall y = Halls.chain(3, 1000);
                y.breakWord(one);
                return y;
            }, y -> y.order(0, 2, 10, 0, 0));
        }
    }

    private static void atMostTheLimit() {
        check.part("what that one would owe is at most the limit");
        HundiHall x = two(50, false);
        check.due("the limit", way(x, 0, 1, 50), "0-1");
        check.due("one more", way(x, 0, 1, 51), "");
        x.rate(1, 100);
        check.due("with the fee of the one who trusts", way(x, 0, 1, 46), "0-1");
        check.due("one more with that fee", way(x, 0, 1, 47), "");
        x.rate(1, 0);
        x.rate(0, 100);
        check.due("without the fee of the one who is trusted", way(x, 0, 1, 50) + way(x, 0, 1, 51), "0-1");
    }

    private static void atMostTheLimitWithDebts() {
        check.part("the debt with it (a debt the other way taken off)");
        HundiHall x = two(50, false);
        x.trust(0, 1, 100, false);
        x.order(0, 1, 20, 0, 0);
        check.due("a debt of 20", way(x, 0, 1, 30) + way(x, 0, 1, 31), "0-1");
        x.deliver(0, 1, 1);
        check.due("a debt of 19", way(x, 0, 1, 31) + way(x, 0, 1, 32), "0-1");
        x.order(0, 1, 31, 0, 0);
        check.due("a debt of 50", way(x, 0, 1, 1), "");
        x.order(1, 0, 50, 0, 0);
        check.due("no debt", way(x, 0, 1, 50) + way(x, 0, 1, 51), "0-1");
        x.order(1, 0, 60, 0, 0);
        check.due("a debt of 60 the other way", way(x, 0, 1, 110) + way(x, 0, 1, 111), "0-1");
        check.due("and for that one", way(x, 1, 0, 40) + way(x, 1, 0, 41), "1-0");
        x.trust(1, 0, 0, false);
        check.due("the limit 0", way(x, 0, 1, 60) + way(x, 0, 1, 61), "0-1");
    }

    private static void atMostTheLimitAtEachStep() {
        check.part("each but the first trusts the one ahead of it so far");
        int[] due = {1060, 1030, 1010};
        for (int step = 0; step < 3; step++) {
            HundiHall x = Halls.chain(4, 5000);
            x.rate(0, 100);
            x.rate(1, 30);
            x.rate(2, 20);
            x.rate(3, 10);
            x.trust(step + 1, step, due[step], false);
            check.due("step " + step, way(x, 0, 3, 1000), "0-1-2-3");
            x.trust(step + 1, step, due[step] - 1, false);
            check.due("step " + step + ", one less", way(x, 0, 3, 1000), "");
            x.trust(step, step + 1, 5000, true);
            check.due("step " + step + ", trust the other way", way(x, 0, 3, 1000), "");
        }
        HundiHall y = Halls.chain(11, 1000000);
        for (int i = 0; i < 11; i++) {
            y.rate(i, 100);
            if (i > 0) {
                y.trust(i, i - 1, 1000000, true);
            }
        }
        check.due("dear without a festival", way(y, 0, 10, 1000000), "");
        y.festival();
        check.due("2000000 in a festival", way(y, 0, 10, 1000000), "0-1-2-3-4-5-6-7-8-9-10");
        y.order(0, 10, 1000000, 0, 0);
        check.due("the most that is given", y.orderOf(0, 2), 2100000);
        check.due("the most that is owed by one order", y.debt(0, 1, false), 2000000);
        check.due("the least of the way", y.debt(9, 10, false), 1100000);
    }

    /** From 0 to 5 by 1, or by 2 and 3, or by 4. */
    private static HundiHall threeWays(int by1, int by2, int by3, int by4) {
        HundiHall x = new HundiHall();
        int[] rates = {0, by1, by2, by3, by4, 0};
        for (int rate : rates) {
            x.broker(0, 0, rate);
        }
        int[][] trust = {{1, 0}, {5, 1}, {2, 0}, {3, 2}, {5, 3}, {4, 0}, {5, 4}};
        for (int[] pair : trust) {
            x.trust(pair[0], pair[1], 100000, false);
        }
        return x;
    }

    private static void leastFees() {
        check.part("the one with the least fees together");
        check.due("one less, by two", way(threeWays(20, 10, 9, 20), 0, 5, 1000), "0-2-3-5");
        check.due("one less, by the higher one", way(threeWays(20, 10, 10, 19), 0, 5, 1000), "0-4-5");
        check.due("one more, by two", way(threeWays(20, 11, 10, 20), 0, 5, 1000), "0-1-5");
        check.due("one less by the last cut", way(threeWays(20, 10, 9, 20), 0, 5, 100), "0-2-3-5");
        check.due("1 against 0 by the cut", way(threeWays(20, 10, 9, 20), 0, 5, 50), "0-2-3-5");
        check.due("all cut to 0", way(threeWays(20, 10, 9, 20), 0, 5, 49), "0-1-5");
    }

    private static void fewestBrokers() {
        check.part("of several the one with the fewest brokers");
        check.due("the same fees", way(threeWays(20, 10, 10, 20), 0, 5, 1000), "0-1-5");
        check.due("the same fees, by the higher one", way(threeWays(21, 10, 10, 20), 0, 5, 1000), "0-4-5");
        HundiHall x = threeWays(0, 0, 0, 0);
        check.due("no fees", way(x, 0, 5, 1000), "0-1-5");
        x.trust(5, 0, 1000, false);
        check.due("no fees, straight", way(x, 0, 5, 1000), "0-5");
        x.trust(5, 0, 999, false);
        check.due("no trust straight", way(x, 0, 5, 1000), "0-1-5");
    }

    private static void lowerBroker() {
        check.part("then the one with the lower broker at the first place where they are unlike");
        HundiHall x = threeWays(20, 10, 10, 20);
        check.due("1, not 4", way(x, 0, 5, 1000), "0-1-5");
        x.trust(1, 0, 1019, false);
        check.due("4, if 1 can not", way(x, 0, 5, 1000), "0-4-5");
        HundiHall y = new HundiHall();
        for (int i = 0; i < 8; i++) {
            y.broker(0, 0, 0);
        }
        int[][] trust = {{1, 7}, {2, 7}, {4, 1}, {3, 2}, {6, 4}, {5, 3}, {0, 6}, {0, 5}};
        for (int[] pair : trust) {
            y.trust(pair[0], pair[1], 1000, false);
        }
        check.due("the first place counts", way(y, 7, 0, 10), "7-1-4-6-0");
        y.trust(5, 4, 1000, false);
        check.due("then a later one", way(y, 7, 0, 10), "7-1-4-5-0");
        y.trust(3, 1, 1000, false);
        check.due("then the one ahead of that", way(y, 7, 0, 10), "7-1-3-5-0");
        y.trust(5, 3, 9, false);
        check.due("unless it is shut", way(y, 7, 0, 10), "7-1-4-5-0");
    }

    private static void ratesFromNowOn() {
        check.part("3: the rate, for orders that are given from now on");
        HundiHall x = Halls.chain(2, 10000);
        check.due("what it was at first", x.rate(1, 100), 0);
        x.order(0, 1, 1000, 0, 0);
        check.due("what it was", x.rate(1, 0), 100);
        x.order(0, 1, 1000, 0, 0);
        check.due("given at 100", x.orderOf(0, 2), 1100);
        check.due("given at 0", x.orderOf(1, 2), 1000);
        x.pass(240);
        check.due("given back as it was given", x.sum(2), 2100);
        check.due("taken back as it arose", x.debt(0, 1, false), 0);
        check.due("also of a RAIDED one", x.raid(1) + x.rate(1, 5), 0);
        check.due("also of a BROKEN one", x.breakWord(1) + x.rate(1, 6), 5);
        check.due("the same again", x.rate(1, 6), 6);
    }

    private static void placesOfAWay() {
        check.part("21: -1 if there are not so many, or there is no way");
        HundiHall x = Halls.chain(12, 1000);
        check.due("place 0", x.way(0, 1, 10, 0), 0);
        check.due("the last place", x.way(0, 1, 10, 1), 1);
        check.due("behind it", x.way(0, 1, 10, 2), HundiHall.NONE);
        check.due("the twelfth", x.way(0, 11, 10, 11), 11);
        check.due("the thirteenth", x.way(0, 11, 10, 12), HundiHall.NONE);
        check.due("the highest place", x.way(0, 11, 10, Integer.MAX_VALUE), HundiHall.NONE);
        check.due("no way, place 0", x.way(1, 0, 10, 0), HundiHall.NONE);
        check.due("no way, place 1", x.way(1, 0, 10, 1), HundiHall.NONE);
        check.due("no way, the highest place", x.way(1, 0, 10, Integer.MAX_VALUE), HundiHall.NONE);
        Twins.refused(check, Check.INDEX, "place -1", () -> Halls.chain(2, 10), y -> y.way(0, 1, 10, -1));
        Twins.refused(check, Check.INDEX, "place -1, no way", () -> Halls.chain(2, 10), y -> y.way(1, 0, 10, -1));
        check.due("also for what would be refused by a listed name", listedAll().way(0, 1, 10, 1), 1);
    }

    private static HundiHall listedAll() {
        HundiHall x = Halls.chain(2, 1000);
        for (int i = 0; i < 20; i++) {
            x.list(i);
        }
        return x;
    }
}
