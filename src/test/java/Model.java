import java.util.ArrayList;
import java.util.List;

/**
 * The document once more, written another way, to be compared with the class: debts are a list of entries that are
 * struck out when they are taken back, and the way is the best one of all that can be.
 */
final class Model {
    private static final class Entry {
        int debtor;
        int creditor;
        long value;
        boolean isKnownToCreditor;

        Entry(int debtor, int creditor, long value, boolean isKnownToCreditor) {
            this.debtor = debtor;
            this.creditor = creditor;
            this.value = value;
            this.isKnownToCreditor = isKnownToCreditor;
        }
    }

    private static final class One {
        int town;
        long cash;
        int rate;
        int state;
        int raidHour;
        boolean wasRaided;
        int[] limit = new int[12];
        boolean[] kin = new boolean[12];
    }

    private static final class Message {
        List<Integer> way;
        List<Entry> debts = new ArrayList<>();
        int amount;
        int code;
        int given;
        int hour;
        int state;
        int place;
        int falseCodes;
        boolean hasNewWay;
    }

    private static final class Runner {
        int from;
        int to;
        int amount;
        int due;
        char state = 'r';
    }

    private final List<One> ones = new ArrayList<>();
    private final List<Message> messages = new ArrayList<>();
    private final List<Runner> runners = new ArrayList<>();
    private final List<Entry> entries = new ArrayList<>();
    private final int[] bounds = new int[8];
    private final int[] told = new int[8];
    private final boolean[] listed = new boolean[20];
    private int hour;
    private boolean feast;
    private long paidOut;
    private long givenBack;
    private long robbed;
    private long seized;
    /** How often rare things came to pass, so that a test can tell whether it saw them. */
    static final String[] RARE = {
        "new ways", "no new ways", "dearer ways", "LOST as it would go back", "given back", "rings",
        "ways of nine or more", "new ways from behind the first broker", "new ways in the place of new ways",
        "raids over", "third false codes", "too old", "the last order that can be", "the last courier that can be",
    };
    final int[] seen = new int[RARE.length];

    Model() {
        for (int i = 0; i < 8; i++) {
            bounds[i] = 1000000;
        }
    }

    private void index(boolean exists) {
        if (!exists) {
            throw new IndexOutOfBoundsException();
        }
    }

    private void argument(boolean inRange) {
        if (!inRange) {
            throw new IllegalArgumentException();
        }
    }

    private void state(boolean isPossible) {
        if (!isPossible) {
            throw new IllegalStateException();
        }
    }

    private boolean isOne(int i) {
        return i >= 0 && i < ones.size();
    }

    private boolean within(int value, int least, int most) {
        return value >= least && value <= most;
    }

    long broker(int town, int cash, int rate) {
        index(within(town, 0, 7));
        argument(within(cash, 0, 1000000) && within(rate, 0, 100));
        state(ones.size() < 12);
        One one = new One();
        one.town = town;
        one.cash = cash;
        one.rate = rate;
        ones.add(one);
        return ones.size() - 1;
    }

    long rate(int i, int rate) {
        index(isOne(i));
        argument(within(rate, 0, 100));
        int was = ones.get(i).rate;
        ones.get(i).rate = rate;
        return was;
    }

    long trust(int by, int other, int limit, boolean isKin) {
        index(isOne(by) && isOne(other));
        argument(by != other && within(limit, 0, 1000000));
        ones.get(by).limit[other] = limit;
        ones.get(by).kin[other] = isKin;
        return 0;
    }

    long festival() {
        feast = !feast;
        return feast ? 1 : 0;
    }

    long breakWord(int i) {
        index(isOne(i));
        state(ones.get(i).state != 2);
        ones.get(i).state = 2;
        long lost = 0;
        for (Message m : messages) {
            if (m.way.get(0) == i && (m.state == 0 || m.state == 3)) {
                strike(m, 0);
                m.state = 5;
                lost++;
            }
        }
        goRound(i);
        return lost;
    }

    long raid(int i) {
        index(isOne(i));
        One one = ones.get(i);
        state(one.state == 0);
        long cash = one.cash;
        seized += cash;
        one.cash = 0;
        one.state = 1;
        one.raidHour = hour;
        one.wasRaided = true;
        goRound(i);
        return cash;
    }

    private void goRound(int i) {
        for (Message m : messages) {
            if (m.state == 0 && m.way.indexOf(i) > m.place) {
                int before = 0;
                for (int j = m.place + 1; j < m.way.size(); j++) {
                    before += (int) (m.debts.get(j - 1).value - (j < m.way.size() - 1 ? m.debts.get(j).value : m.amount));
                }
                strike(m, m.place);
                List<Integer> ahead = new ArrayList<>(m.way.subList(0, m.place));
                List<Integer> rest = best(m.way.get(m.place), m.way.get(m.way.size() - 1), m.amount, ahead);
                if (rest != null && feesFrom(rest, 1, m.amount) <= before) {
                    seen[0]++;
                    seen[7] += m.place > 0 ? 1 : 0;
                    seen[8] += m.hasNewWay ? 1 : 0;
                    m.hasNewWay = true;
                    m.way = new ArrayList<>(ahead);
                    m.way.addAll(rest);
                    enter(m, m.place);
                } else {
                    seen[rest == null ? 1 : 2]++;
                    strike(m, 0);
                    turn(m);
                }
            }
        }
    }

    private void turn(Message m) {
        m.state = ones.get(m.way.get(0)).state == 2 ? 5 : 3;
        seen[3] += m.state == 5 ? 1 : 0;
    }

    /** Strikes out the debts of the steps from the given one on. */
    private void strike(Message m, int from) {
        while (m.debts.size() > from) {
            entries.remove(m.debts.remove(m.debts.size() - 1));
        }
    }

    private void enter(Message m, int from) {
        for (int i = from; i + 1 < m.way.size(); i++) {
            Entry e = new Entry(m.way.get(i), m.way.get(i + 1), m.amount + feesFrom(m.way, i + 1, m.amount), false);
            m.debts.add(e);
            entries.add(e);
        }
    }

    private int feesFrom(List<Integer> way, int from, int amount) {
        int fees = 0;
        for (int i = from; i < way.size(); i++) {
            fees += (int) ((long) amount * ones.get(way.get(i)).rate / 1000);
        }
        return fees;
    }

    private long owed(int a, int b) {
        long sum = 0;
        for (Entry e : entries) {
            sum += e.debtor == a && e.creditor == b ? e.value : e.debtor == b && e.creditor == a ? -e.value : 0;
        }
        return sum;
    }

    private long told(int a, int b) {
        long sum = 0;
        for (Entry e : entries) {
            if (e.debtor == a && e.creditor == b) {
                sum += e.value;
            } else if (e.debtor == b && e.creditor == a && e.isKnownToCreditor) {
                sum -= e.value;
            }
        }
        return sum;
    }

    /** Whether the broker trusts the one ahead so far, as the last step but those of the tail. */
    private boolean isStep(int ahead, List<Integer> tail, int amount, long[][] owed) {
        int at = tail.get(0);
        One by = ones.get(at);
        long limit = by.limit[ahead];
        if (feast && by.kin[ahead]) {
            limit = limit + limit;
        }
        return ones.get(ahead).state == 0 && amount + feesFrom(tail, 0, amount) + owed[ahead][at] <= limit;
    }

    private boolean isBetter(List<Integer> a, List<Integer> b, int amount) {
        if (b == null) {
            return true;
        }
        int feesA = feesFrom(a, 0, amount);
        int feesB = feesFrom(b, 0, amount);
        if (feesA != feesB) {
            return feesA < feesB;
        }
        if (a.size() != b.size()) {
            return a.size() < b.size();
        }
        for (int i = 0; i < a.size(); i++) {
            if (!a.get(i).equals(b.get(i))) {
                return a.get(i) < b.get(i);
            }
        }
        return false;
    }

    private List<Integer> best(int first, int last, int amount, List<Integer> without) {
        long[][] owed = new long[ones.size()][ones.size()];
        for (int a = 0; a < ones.size(); a++) {
            for (int b = 0; b < ones.size(); b++) {
                owed[a][b] = owed(a, b);
            }
        }
        List<Integer> tail = new ArrayList<>();
        tail.add(last);
        return ones.get(last).state == 0 ? bestOfAll(first, tail, amount, without, owed, null) : null;
    }

    /** Looks at each way that can be with that tail. */
    private List<Integer> bestOfAll(int first, List<Integer> tail, int amount, List<Integer> without, long[][] owed,
            List<Integer> best) {
        if (tail.get(0) == first) {
            return isBetter(tail, best, amount) ? new ArrayList<>(tail) : best;
        }
        for (int ahead = 0; ahead < ones.size(); ahead++) {
            if (!tail.contains(ahead) && !without.contains(ahead) && isStep(ahead, tail, amount, owed)) {
                tail.add(0, ahead);
                best = bestOfAll(first, tail, amount, without, owed, best);
                tail.remove(0);
            }
        }
        return best;
    }

    long order(int first, int last, int amount, int name, int code) {
        index(isOne(first) && isOne(last) && within(name, 0, 19));
        argument(first != last && within(amount, 1, 1000000) && within(code, 0, 9999));
        state(messages.size() < 40 && !listed[name]);
        List<Integer> way = best(first, last, amount, new ArrayList<>());
        state(way != null);
        Message m = new Message();
        m.way = way;
        m.amount = amount;
        m.code = code;
        m.hour = hour;
        m.given = amount + feesFrom(way, 0, amount);
        ones.get(first).cash += m.given;
        enter(m, 0);
        messages.add(m);
        seen[6] += way.size() >= 9 ? 1 : 0;
        seen[12] += messages.size() == 40 ? 1 : 0;
        if (amount > bounds[ones.get(first).town]) {
            told[ones.get(first).town]++;
        }
        return messages.size() - 1;
    }

    long fetch(int order, int code) {
        index(order >= 0 && order < messages.size());
        argument(within(code, 0, 9999));
        Message m = messages.get(order);
        One payer = ones.get(m.way.get(m.way.size() - 1));
        state(m.state == 1 && payer.state == 0 && payer.cash >= m.amount);
        if (code == m.code) {
            payer.cash -= m.amount;
            paidOut += m.amount;
            m.state = 2;
        } else if (++m.falseCodes == 3) {
            seen[10]++;
            strike(m, 0);
            turn(m);
        }
        return m.state;
    }

    long pass(int hours) {
        argument(within(hours, 1, 500));
        for (int i = 0; i < hours; i++) {
            passOne();
        }
        return hour;
    }

    private void passOne() {
        hour++;
        for (One one : ones) {
            if (one.state == 1 && hour - one.raidHour == 720) {
                one.state = 0;
                seen[9]++;
            }
        }
        for (Message m : messages) {
            if (m.state == 0) {
                m.debts.get(m.place).isKnownToCreditor = true;
                m.place++;
                m.state = m.place == m.way.size() - 1 ? 1 : 0;
            }
        }
        for (Message m : messages) {
            if ((m.state == 0 || m.state == 1) && hour - m.hour == 240) {
                seen[11]++;
                strike(m, 0);
                turn(m);
            }
        }
        for (Message m : messages) {
            One first = ones.get(m.way.get(0));
            if (m.state == 3 && first.state == 0 && first.cash >= m.given) {
                first.cash -= m.given;
                givenBack += m.given;
                m.state = 4;
                seen[4]++;
            }
        }
        for (Runner r : runners) {
            if (r.state == 'r' && r.due == hour) {
                r.state = 'c';
                ones.get(r.to).cash += r.amount;
                entries.add(new Entry(r.to, r.from, r.amount, true));
            }
        }
    }

    private long settle(int i, int other, int value) {
        entries.add(new Entry(other, i, value, true));
        return owed(i, other);
    }

    long pay(int i, int other, int amount) {
        index(isOne(i) && isOne(other));
        argument(i != other && within(amount, 1, 1000000));
        state(ones.get(i).state == 0 && ones.get(other).state == 0);
        state(owed(i, other) >= amount && ones.get(i).cash >= amount);
        ones.get(i).cash -= amount;
        ones.get(other).cash += amount;
        return settle(i, other, amount);
    }

    long deliver(int i, int other, int value) {
        index(isOne(i) && isOne(other));
        argument(i != other && within(value, 1, 1000000));
        state(ones.get(i).state != 2 && ones.get(other).state != 2 && owed(i, other) >= value);
        return settle(i, other, value);
    }

    long courier(int i, int other, int amount, int hours) {
        index(isOne(i) && isOne(other));
        argument(i != other && within(amount, 1, 1000000) && within(hours, 1, 500));
        state(runners.size() < 40 && ones.get(i).state == 0 && ones.get(i).cash >= amount);
        Runner r = new Runner();
        r.from = i;
        r.to = other;
        r.amount = amount;
        r.due = hour + hours;
        ones.get(i).cash -= amount;
        runners.add(r);
        seen[13] += runners.size() == 40 ? 1 : 0;
        return runners.size() - 1;
    }

    long rob(int courier) {
        index(courier >= 0 && courier < runners.size());
        Runner r = runners.get(courier);
        state(r.state == 'r');
        r.state = 'x';
        robbed += r.amount;
        return r.amount;
    }

    long ring() {
        long all = 0;
        int n = ones.size();
        for (int triple = 0; triple < n * n * n; triple++) {
            int a = triple / n / n;
            int b = triple / n % n;
            int c = triple % n;
            if (a != b && b != c && a != c) {
                long least = Math.min(owed(a, b), Math.min(owed(b, c), owed(c, a)));
                if (least > 0) {
                    entries.add(new Entry(b, a, least, true));
                    entries.add(new Entry(c, b, least, true));
                    entries.add(new Entry(a, c, least, true));
                    all += least;
                    seen[5]++;
                }
            }
        }
        return all;
    }

    long law(int town, int bound) {
        index(within(town, 0, 7));
        argument(within(bound, 0, 1000000));
        bounds[town] = bound;
        return told[town];
    }

    long list(int name) {
        index(within(name, 0, 19));
        listed[name] ^= true;
        return listed[name] ? 1 : 0;
    }

    long brokerOf(int i, int what) {
        index(isOne(i));
        argument(within(what, 0, 3));
        One one = ones.get(i);
        long worth = one.cash;
        for (int j = 0; j < ones.size(); j++) {
            worth += j == i ? 0 : owed(j, i);
        }
        return what == 0 ? one.state : what == 1 ? one.cash : what == 2 ? one.town : worth;
    }

    long debt(int i, int other, boolean isBook) {
        index(isOne(i) && isOne(other));
        return i == other ? 0 : isBook ? told(i, other) : owed(i, other);
    }

    long agree(int i, int other) {
        index(isOne(i) && isOne(other));
        return i == other || told(i, other) + told(other, i) == 0 ? 1 : 0;
    }

    long way(int first, int last, int amount, int place) {
        index(isOne(first) && isOne(last) && place >= 0);
        argument(first != last && within(amount, 1, 1000000));
        List<Integer> way = best(first, last, amount, new ArrayList<>());
        return way == null || place >= way.size() ? -1 : way.get(place);
    }

    long wayOf(int order, int place) {
        index(order >= 0 && order < messages.size() && place >= 0);
        List<Integer> way = messages.get(order).way;
        return place >= way.size() ? -1 : way.get(place);
    }

    long orderOf(int order, int what) {
        index(order >= 0 && order < messages.size());
        argument(within(what, 0, 5));
        Message m = messages.get(order);
        return new int[] {m.state, m.amount, m.given, m.place, m.falseCodes, m.hour}[what];
    }

    long inquiry() {
        List<Integer> named = new ArrayList<>();
        for (int i = 0; i < ones.size(); i++) {
            if (ones.get(i).wasRaided) {
                named.add(i);
            }
        }
        for (int k = 0; k < named.size(); k++) {
            for (int j = 0; j < ones.size(); j++) {
                if (!named.contains(j) && told(named.get(k), j) != 0) {
                    named.add(j);
                }
            }
        }
        long set = 0;
        for (int i : named) {
            set += 1L << i;
        }
        return set;
    }

    long sum(int what) {
        argument(within(what, 0, 7));
        long given = 0;
        long lost = 0;
        for (Message m : messages) {
            given += m.given;
            lost += m.state == 5 ? m.given : 0;
        }
        long carried = 0;
        for (Runner r : runners) {
            carried += r.state == 'r' ? r.amount : 0;
        }
        long cash = 0;
        for (One one : ones) {
            cash += one.cash;
        }
        return new long[] {given, paidOut, givenBack, robbed, seized, carried, cash, lost}[what];
    }
}
