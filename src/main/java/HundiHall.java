public final class HundiHall {
    public static final int NONE = -1;
    public static final int GOOD = 0, RAIDED = 1, BROKEN = 2;
    public static final int ON_ITS_WAY = 0, HERE = 1, PAID = 2, GOES_BACK = 3, BACK = 4, LOST = 5;

    private static final int MOST_BROKERS = 12;
    private static final int MOST_ORDERS = 40;
    private static final int MOST_COURIERS = 40;
    private static final int TOWNS = 8;
    private static final int NAMES = 20;
    private static final int MOST_MONEY = 1000000;
    private static final int MOST_RATE = 100;
    private static final int MOST_CODE = 9999;
    private static final int MOST_HOURS = 500;
    private static final int RAID_HOURS = 720;
    private static final int OLD_HOURS = 240;
    private static final int FALSE_CODES = 3;

    private final Broker[] brokers;
    private final Order[] orders;
    private final Courier[] couriers;
    private final Ledger ledger;
    private final WayFinder finder;
    private final int[] bounds;
    private final int[] told;
    private final boolean[] listed;
    private int brokerCount;
    private int orderCount;
    private int courierCount;
    private int hour;
    private boolean isFestival;
    private long seized;

    /** A broker, and whom that one trusts. */
    private static final class Broker {
        int town;
        long cash;
        int rate;
        int state;
        int raidEnd;
        boolean wasRaided;
        final int[] limits = new int[MOST_BROKERS];
        final boolean[] isKin = new boolean[MOST_BROKERS];

        boolean isGood() {
            return state == GOOD;
        }

        int limitNow(int other, boolean isFestival) {
            return isFestival && isKin[other] ? 2 * limits[other] : limits[other];
        }
    }

    /** What each broker owes each other one, and what its book tells of that; below 0 what it is owed. */
    private static final class Ledger {
        final long[][] owed = new long[MOST_BROKERS][MOST_BROKERS];
        final long[][] books = new long[MOST_BROKERS][MOST_BROKERS];

        void change(int debtor, int creditor, long value) {
            owed[debtor][creditor] += value;
            owed[creditor][debtor] -= value;
        }

        void write(int writer, int other, long value) {
            books[writer][other] += value;
        }

        void changeKnown(int debtor, int creditor, long value) {
            change(debtor, creditor, value);
            write(debtor, creditor, value);
            write(creditor, debtor, -value);
        }
    }

    /** An order; steps[i] is what the broker at the place i of its way came to owe the next one. */
    private static final class Order {
        int amount;
        int code;
        int given;
        int hourGiven;
        int state;
        int place;
        int falseCodes;
        int length;
        final int[] brokers = new int[MOST_BROKERS];
        final int[] steps = new int[MOST_BROKERS];

        int firstBroker() {
            return brokers[0];
        }

        int lastBroker() {
            return length > 0 && length <= brokers.length ? brokers[length - 1] : brokers[0];
        }

        int brokerAt(int place) {
            return place >= 0 && place < length && place < brokers.length ? brokers[place] : NONE;
        }

        boolean isOpen() {
            return state == ON_ITS_WAY || state == HERE;
        }

        boolean isStillToPass(int broker) {
            for (int i = place + 1; i < length; i++) {
                if (brokers[i] == broker) {
                    return true;
                }
            }
            return false;
        }

        /** Puts the way that was found in the place of all from the given place on. */
        void takeWay(WayFinder found, int from) {
            int count = 0;
            for (int i = 0; i < found.length && from + i < brokers.length; i++) {
                brokers[from + i] = found.path[i];
                steps[from + i] = i + 1 < found.length ? amount + found.fees[found.path[i + 1]] : 0;
                count++;
            }
            length = from + count;
        }
    }

    /** A courier, who is on the road until that one has come or was robbed. */
    private static final class Courier {
        int from;
        int to;
        int amount;
        int hourDue;
        boolean isOnRoad;
        boolean isRobbed;
    }

    /**
     * Finds the way of an order. It goes from the last broker towards the first one, since what a broker would owe
     * hangs on the fees behind it alone; there less fees never shut a step that more fees leave open, so that the
     * best way from a broker on is part of each best way by that broker.
     */
    private static final class WayFinder {
        final Broker[] brokers;
        final Ledger ledger;
        final boolean[] isOpen = new boolean[MOST_BROKERS];
        final boolean[] isReached = new boolean[MOST_BROKERS];
        final boolean[] isSettled = new boolean[MOST_BROKERS];
        /** The fees of a broker and of all behind it, on the best way from that one to the last. */
        final int[] fees = new int[MOST_BROKERS];
        final int[] counts = new int[MOST_BROKERS];
        final int[] path = new int[MOST_BROKERS];
        int length;
        int amount;
        boolean isFestival;

        WayFinder(Broker[] brokers, Ledger ledger) {
            this.brokers = brokers;
            this.ledger = ledger;
        }

        void start(int brokerCount, int amount, boolean isFestival) {
            this.amount = amount;
            this.isFestival = isFestival;
            for (int i = 0; i < MOST_BROKERS; i++) {
                isOpen[i] = i < brokerCount && brokers[i].isGood();
            }
        }

        void leaveOut(int broker) {
            isOpen[broker] = false;
        }

        boolean find(int first, int last) {
            length = 0;
            if (!isOpen[first] || !isOpen[last]) {
                return false;
            }
            startAt(last);
            for (int round = 0; round < MOST_BROKERS; round++) {
                reachFromBest();
            }
            if (!isReached[first]) {
                return false;
            }
            follow(first, last);
            return true;
        }

        int allFees() {
            return length > 0 ? fees[path[0]] : 0;
        }

        int feesBehindFirst() {
            return length > 1 ? fees[path[1]] : 0;
        }

        private int feeOf(int broker) {
            return amount * brokers[broker].rate / 1000;
        }

        private boolean canOwe(int debtor, int creditor) {
            long wouldOwe = ledger.owed[debtor][creditor] + amount + fees[creditor];
            return wouldOwe <= brokers[creditor].limitNow(debtor, isFestival);
        }

        private void startAt(int last) {
            for (int i = 0; i < MOST_BROKERS; i++) {
                isReached[i] = false;
                isSettled[i] = false;
            }
            isReached[last] = true;
            fees[last] = feeOf(last);
            counts[last] = 1;
        }

        private int bestUnsettled() {
            int best = NONE;
            for (int i = 0; i < MOST_BROKERS; i++) {
                if (isReached[i] && !isSettled[i] && (best == NONE || isBetter(fees[i], counts[i], best))) {
                    best = i;
                }
            }
            return best;
        }

        private boolean isBetter(int fee, int count, int than) {
            return fee < fees[than] || fee == fees[than] && count < counts[than];
        }

        private void reachFromBest() {
            int creditor = bestUnsettled();
            if (creditor == NONE) {
                return;
            }
            isSettled[creditor] = true;
            for (int i = 0; i < MOST_BROKERS; i++) {
                if (isOpen[i] && !isSettled[i] && canOwe(i, creditor)) {
                    int fee = fees[creditor] + feeOf(i);
                    int count = counts[creditor] + 1;
                    if (!isReached[i] || isBetter(fee, count, i)) {
                        isReached[i] = true;
                        fees[i] = fee;
                        counts[i] = count;
                    }
                }
            }
        }

        private void follow(int first, int last) {
            int at = first;
            for (int i = 0; i < MOST_BROKERS && at != NONE; i++) {
                path[i] = at;
                length = i + 1;
                at = at == last ? NONE : nextOf(at);
            }
        }

        private int nextOf(int broker) {
            for (int i = 0; i < MOST_BROKERS; i++) {
                if (isReached[i] && counts[i] + 1 == counts[broker] && fees[i] + feeOf(broker) == fees[broker]
                        && canOwe(broker, i)) {
                    return i;
                }
            }
            return NONE;
        }
    }

    public HundiHall() {
        brokers = new Broker[MOST_BROKERS];
        for (int i = 0; i < MOST_BROKERS; i++) {
            brokers[i] = new Broker();
        }
        orders = new Order[MOST_ORDERS];
        for (int i = 0; i < MOST_ORDERS; i++) {
            orders[i] = new Order();
        }
        couriers = new Courier[MOST_COURIERS];
        for (int i = 0; i < MOST_COURIERS; i++) {
            couriers[i] = new Courier();
        }
        ledger = new Ledger();
        finder = new WayFinder(brokers, ledger);
        bounds = new int[TOWNS];
        for (int i = 0; i < TOWNS; i++) {
            bounds[i] = MOST_MONEY;
        }
        told = new int[TOWNS];
        listed = new boolean[NAMES];
    }

    // ---- brokers, trust

    public int broker(int town, int cash, int rate)
            throws IndexOutOfBoundsException, IllegalArgumentException, IllegalStateException {
        requireIndex(town, TOWNS);
        requireRange(cash, 0, MOST_MONEY);
        requireRange(rate, 0, MOST_RATE);
        requireState(brokerCount < MOST_BROKERS);
        Broker broker = brokers[brokerCount];
        broker.town = town;
        broker.cash = cash;
        broker.rate = rate;
        brokerCount++;
        return brokerCount - 1;
    }

    public int rate(int broker, int rate) throws IndexOutOfBoundsException, IllegalArgumentException {
        requireIndex(broker, brokerCount);
        requireRange(rate, 0, MOST_RATE);
        int was = brokers[broker].rate;
        brokers[broker].rate = rate;
        return was;
    }

    public void trust(int by, int other, int limit, boolean isKin)
            throws IndexOutOfBoundsException, IllegalArgumentException {
        requireTwoBrokers(by, other);
        requireRange(limit, 0, MOST_MONEY);
        brokers[by].limits[other] = limit;
        brokers[by].isKin[other] = isKin;
    }

    public boolean festival() {
        isFestival = !isFestival;
        return isFestival;
    }

    public int breakWord(int broker) throws IndexOutOfBoundsException, IllegalStateException {
        requireIndex(broker, brokerCount);
        requireState(brokers[broker].state != BROKEN);
        brokers[broker].state = BROKEN;
        int lost = loseOrdersFrom(broker);
        avoid(broker);
        return lost;
    }

    public int raid(int broker) throws IndexOutOfBoundsException, IllegalStateException {
        requireIndex(broker, brokerCount);
        requireState(brokers[broker].isGood());
        Broker raided = brokers[broker];
        long cash = raided.cash;
        raided.cash = 0;
        raided.state = RAIDED;
        raided.raidEnd = hour + RAID_HOURS;
        raided.wasRaided = true;
        seized += cash;
        avoid(broker);
        return (int) cash;
    }

    // ---- orders

    public int order(int first, int last, int amount, int name, int code)
            throws IndexOutOfBoundsException, IllegalArgumentException, IllegalStateException {
        requireIndex(name, NAMES);
        requireTwoBrokers(first, last);
        requireRange(amount, 1, MOST_MONEY);
        requireRange(code, 0, MOST_CODE);
        requireState(orderCount < MOST_ORDERS);
        requireState(!listed[name]);
        requireState(findWay(first, last, amount));
        Order order = orders[orderCount];
        order.amount = amount;
        order.code = code;
        order.hourGiven = hour;
        order.state = ON_ITS_WAY;
        order.given = amount + finder.allFees();
        order.takeWay(finder, 0);
        brokers[first].cash += order.given;
        letArise(order);
        tellTown(brokers[first].town, amount);
        orderCount++;
        return orderCount - 1;
    }

    public int fetch(int order, int code)
            throws IndexOutOfBoundsException, IllegalArgumentException, IllegalStateException {
        requireIndex(order, orderCount);
        requireRange(code, 0, MOST_CODE);
        Order fetched = orders[order];
        Broker payer = brokers[fetched.lastBroker()];
        requireState(fetched.state == HERE);
        requireState(payer.isGood() && payer.cash >= fetched.amount);
        if (code == fetched.code) {
            payer.cash -= fetched.amount;
            fetched.state = PAID;
            return PAID;
        }
        fetched.falseCodes++;
        if (fetched.falseCodes >= FALSE_CODES) {
            goBack(fetched);
        }
        return fetched.state;
    }

    public int pass(int hours) throws IllegalArgumentException {
        requireRange(hours, 1, MOST_HOURS);
        for (int i = 0; i < hours; i++) {
            passHour();
        }
        return hour;
    }

    // ---- settling, laws

    public int pay(int broker, int other, int amount)
            throws IndexOutOfBoundsException, IllegalArgumentException, IllegalStateException {
        requireTwoBrokers(broker, other);
        requireRange(amount, 1, MOST_MONEY);
        requireState(brokers[broker].isGood() && brokers[other].isGood());
        requireState(ledger.owed[broker][other] >= amount);
        requireState(brokers[broker].cash >= amount);
        brokers[broker].cash -= amount;
        brokers[other].cash += amount;
        ledger.changeKnown(broker, other, -amount);
        return (int) ledger.owed[broker][other];
    }

    public int deliver(int broker, int other, int value)
            throws IndexOutOfBoundsException, IllegalArgumentException, IllegalStateException {
        requireTwoBrokers(broker, other);
        requireRange(value, 1, MOST_MONEY);
        requireState(brokers[broker].state != BROKEN && brokers[other].state != BROKEN);
        requireState(ledger.owed[broker][other] >= value);
        ledger.changeKnown(broker, other, -value);
        return (int) ledger.owed[broker][other];
    }

    public int courier(int broker, int other, int amount, int hours)
            throws IndexOutOfBoundsException, IllegalArgumentException, IllegalStateException {
        requireTwoBrokers(broker, other);
        requireRange(amount, 1, MOST_MONEY);
        requireRange(hours, 1, MOST_HOURS);
        requireState(courierCount < MOST_COURIERS);
        requireState(brokers[broker].isGood() && brokers[broker].cash >= amount);
        Courier courier = couriers[courierCount];
        courier.from = broker;
        courier.to = other;
        courier.amount = amount;
        courier.hourDue = hour + hours;
        courier.isOnRoad = true;
        brokers[broker].cash -= amount;
        courierCount++;
        return courierCount - 1;
    }

    public int rob(int courier) throws IndexOutOfBoundsException, IllegalStateException {
        requireIndex(courier, courierCount);
        requireState(couriers[courier].isOnRoad);
        couriers[courier].isOnRoad = false;
        couriers[courier].isRobbed = true;
        return couriers[courier].amount;
    }

    public long ring() {
        long cleared = 0;
        for (int first = 0; first < brokerCount; first++) {
            for (int second = 0; second < brokerCount; second++) {
                for (int third = 0; third < brokerCount; third++) {
                    if (first != second && second != third && third != first) {
                        cleared += clearRing(first, second, third);
                    }
                }
            }
        }
        return cleared;
    }

    public int law(int town, int bound) throws IndexOutOfBoundsException, IllegalArgumentException {
        requireIndex(town, TOWNS);
        requireRange(bound, 0, MOST_MONEY);
        bounds[town] = bound;
        return told[town];
    }

    public boolean list(int name) throws IndexOutOfBoundsException {
        requireIndex(name, NAMES);
        listed[name] = !listed[name];
        return listed[name];
    }

    // ---- asking

    public long brokerOf(int broker, int what) throws IndexOutOfBoundsException, IllegalArgumentException {
        requireIndex(broker, brokerCount);
        requireRange(what, 0, 3);
        switch (what) {
            case 0:
                return brokers[broker].state;
            case 1:
                return brokers[broker].cash;
            case 2:
                return brokers[broker].town;
            default:
                return worthOf(broker);
        }
    }

    public long debt(int broker, int other, boolean isBook) throws IndexOutOfBoundsException {
        requireIndex(broker, brokerCount);
        requireIndex(other, brokerCount);
        return isBook ? ledger.books[broker][other] : ledger.owed[broker][other];
    }

    public boolean agree(int broker, int other) throws IndexOutOfBoundsException {
        requireIndex(broker, brokerCount);
        requireIndex(other, brokerCount);
        return ledger.books[broker][other] == -ledger.books[other][broker];
    }

    public int way(int first, int last, int amount, int place)
            throws IndexOutOfBoundsException, IllegalArgumentException {
        requirePlace(place);
        requireTwoBrokers(first, last);
        requireRange(amount, 1, MOST_MONEY);
        if (!findWay(first, last, amount)) {
            return NONE;
        }
        return place < finder.length && place < finder.path.length ? finder.path[place] : NONE;
    }

    public int wayOf(int order, int place) throws IndexOutOfBoundsException {
        requireIndex(order, orderCount);
        requirePlace(place);
        return orders[order].brokerAt(place);
    }

    public int orderOf(int order, int what) throws IndexOutOfBoundsException, IllegalArgumentException {
        requireIndex(order, orderCount);
        requireRange(what, 0, 5);
        Order asked = orders[order];
        switch (what) {
            case 0:
                return asked.state;
            case 1:
                return asked.amount;
            case 2:
                return asked.given;
            case 3:
                return asked.place;
            case 4:
                return asked.falseCodes;
            default:
                return asked.hourGiven;
        }
    }

    public int inquiry() {
        int named = 0;
        for (int i = 0; i < brokerCount; i++) {
            if (brokers[i].wasRaided) {
                named |= 1 << i;
            }
        }
        // Each round names somebody new or is the last one.
        for (int round = 0; round < brokerCount; round++) {
            for (int i = 0; i < brokerCount; i++) {
                if ((named & (1 << i)) != 0) {
                    named |= namedByBook(i);
                }
            }
        }
        return named;
    }

    public long sum(int what) throws IllegalArgumentException {
        requireRange(what, 0, 7);
        switch (what) {
            case 0:
                return sumGiven();
            case 1:
                return sumPaidOut();
            case 2:
                return sumGivenIn(BACK);
            case 3:
                return sumRobbed();
            case 4:
                return seized;
            case 5:
                return sumOnRoad();
            case 6:
                return sumCash();
            default:
                return sumGivenIn(LOST);
        }
    }

    // ---- what calls require

    private static void requireIndex(int index, int count) {
        if (index < 0 || index >= count) {
            throw new IndexOutOfBoundsException("there is no such one");
        }
    }

    private static void requirePlace(int place) {
        if (place < 0) {
            throw new IndexOutOfBoundsException("a place is not below 0");
        }
    }

    private static void requireRange(int value, int least, int most) {
        if (value < least || value > most) {
            throw new IllegalArgumentException("out of range");
        }
    }

    private static void requireState(boolean isPossible) {
        if (!isPossible) {
            throw new IllegalStateException("not possible now");
        }
    }

    private void requireTwoBrokers(int broker, int other) {
        requireIndex(broker, brokerCount);
        requireIndex(other, brokerCount);
        if (broker == other) {
            throw new IllegalArgumentException("both are the same broker");
        }
    }

    // ---- ways and debts of orders

    private boolean findWay(int first, int last, int amount) {
        finder.start(brokerCount, amount, isFestival);
        return finder.find(first, last);
    }

    /** Lets the debts arise from the message's place on; of these only who owes knows as yet. */
    private void letArise(Order order) {
        for (int i = order.place; i < order.length - 1; i++) {
            int debtor = order.brokers[i];
            int creditor = order.brokers[i + 1];
            ledger.change(debtor, creditor, order.steps[i]);
            ledger.write(debtor, creditor, order.steps[i]);
        }
    }

    private void takeBack(Order order, int from, int to) {
        for (int i = from; i < to; i++) {
            int debtor = order.brokers[i];
            int creditor = order.brokers[i + 1];
            ledger.change(debtor, creditor, -order.steps[i]);
            ledger.write(debtor, creditor, -order.steps[i]);
            if (i < order.place) {
                ledger.write(creditor, debtor, order.steps[i]);
            }
        }
    }

    private void goBack(Order order) {
        takeBack(order, 0, order.length - 1);
        endForward(order);
    }

    private void endForward(Order order) {
        order.state = brokers[order.firstBroker()].state == BROKEN ? LOST : GOES_BACK;
    }

    private int loseOrdersFrom(int broker) {
        int lost = 0;
        for (int i = 0; i < orderCount; i++) {
            Order order = orders[i];
            if (order.firstBroker() == broker && (order.state == ON_ITS_WAY || order.state == GOES_BACK)) {
                if (order.state == ON_ITS_WAY) {
                    takeBack(order, 0, order.length - 1);
                }
                order.state = LOST;
                lost++;
            }
        }
        return lost;
    }

    private void avoid(int broker) {
        for (int i = 0; i < orderCount; i++) {
            if (orders[i].state == ON_ITS_WAY && orders[i].isStillToPass(broker)) {
                lookAnew(orders[i]);
            }
        }
    }

    private void lookAnew(Order order) {
        int place = order.place;
        int feesBehind = order.steps[place] - order.amount;
        takeBack(order, place, order.length - 1);
        finder.start(brokerCount, order.amount, isFestival);
        for (int i = 0; i < place; i++) {
            finder.leaveOut(order.brokers[i]);
        }
        if (finder.find(order.brokers[place], order.lastBroker()) && finder.feesBehindFirst() <= feesBehind) {
            order.takeWay(finder, place);
            letArise(order);
        } else {
            // What lies behind the message has been taken back already.
            takeBack(order, 0, place);
            endForward(order);
        }
    }

    private void tellTown(int town, int amount) {
        if (amount > bounds[town]) {
            told[town]++;
        }
    }

    // ---- the hours

    private void passHour() {
        hour++;
        endRaids();
        moveMessages();
        sendBackOld();
        giveBack();
        receiveCouriers();
    }

    private void endRaids() {
        for (int i = 0; i < brokerCount; i++) {
            if (brokers[i].state == RAIDED && hour >= brokers[i].raidEnd) {
                brokers[i].state = GOOD;
            }
        }
    }

    private void moveMessages() {
        for (int i = 0; i < orderCount; i++) {
            Order order = orders[i];
            if (order.state == ON_ITS_WAY && order.place + 1 < order.length) {
                int ahead = order.brokers[order.place];
                int next = order.brokers[order.place + 1];
                ledger.write(next, ahead, -order.steps[order.place]);
                order.place++;
                if (order.place + 1 == order.length) {
                    order.state = HERE;
                }
            }
        }
    }

    private void sendBackOld() {
        for (int i = 0; i < orderCount; i++) {
            if (orders[i].isOpen() && hour >= orders[i].hourGiven + OLD_HOURS) {
                goBack(orders[i]);
            }
        }
    }

    private void giveBack() {
        for (int i = 0; i < orderCount; i++) {
            Order order = orders[i];
            if (order.state == GOES_BACK) {
                Broker first = brokers[order.firstBroker()];
                if (first.isGood() && first.cash >= order.given) {
                    first.cash -= order.given;
                    order.state = BACK;
                }
            }
        }
    }

    private void receiveCouriers() {
        for (int i = 0; i < courierCount; i++) {
            Courier courier = couriers[i];
            if (courier.isOnRoad && hour >= courier.hourDue) {
                courier.isOnRoad = false;
                brokers[courier.to].cash += courier.amount;
                ledger.changeKnown(courier.from, courier.to, -courier.amount);
            }
        }
    }

    // ---- settling and sums

    private long clearRing(int first, int second, int third) {
        long least = Math.min(ledger.owed[first][second],
                Math.min(ledger.owed[second][third], ledger.owed[third][first]));
        if (least <= 0) {
            return 0;
        }
        ledger.changeKnown(first, second, -least);
        ledger.changeKnown(second, third, -least);
        ledger.changeKnown(third, first, -least);
        return least;
    }

    private long worthOf(int broker) {
        long worth = brokers[broker].cash;
        for (int i = 0; i < brokerCount; i++) {
            worth -= ledger.owed[broker][i];
        }
        return worth;
    }

    private int namedByBook(int broker) {
        int named = 0;
        for (int i = 0; i < brokerCount; i++) {
            if (ledger.books[broker][i] != 0) {
                named |= 1 << i;
            }
        }
        return named;
    }

    private long sumGiven() {
        long sum = 0;
        for (int i = 0; i < orderCount; i++) {
            sum += orders[i].given;
        }
        return sum;
    }

    private long sumGivenIn(int state) {
        long sum = 0;
        for (int i = 0; i < orderCount; i++) {
            if (orders[i].state == state) {
                sum += orders[i].given;
            }
        }
        return sum;
    }

    private long sumPaidOut() {
        long sum = 0;
        for (int i = 0; i < orderCount; i++) {
            if (orders[i].state == PAID) {
                sum += orders[i].amount;
            }
        }
        return sum;
    }

    private long sumRobbed() {
        long sum = 0;
        for (int i = 0; i < courierCount; i++) {
            if (couriers[i].isRobbed) {
                sum += couriers[i].amount;
            }
        }
        return sum;
    }

    private long sumOnRoad() {
        long sum = 0;
        for (int i = 0; i < courierCount; i++) {
            if (couriers[i].isOnRoad) {
                sum += couriers[i].amount;
            }
        }
        return sum;
    }

    private long sumCash() {
        long sum = 0;
        for (int i = 0; i < brokerCount; i++) {
            sum += brokers[i].cash;
        }
        return sum;
    }
}
