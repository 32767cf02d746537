/** Long runs of calls, drawn by a fixed rule, on the class and on the Model: each call has to answer the same. */
public final class ModelTests {
    private static final int RUNS = 4000;
    private static final int CALLS = 512;
    private static final int[] ODD = {Integer.MIN_VALUE, -2, -1, 12, 20, 41, 1000001, Integer.MAX_VALUE};

    private static final Check check = new Check();
    private static final int[] seen = new int[Model.RARE.length];
    private static int right = 0;
    private static int wrong = 0;

    private long seed;
    private int brokers;
    private int orders;
    private int couriers;
    private int scale;
    /** A hall with many brokers in a row. */
    private boolean isLong;
    /** A run with many orders and couriers. */
    private boolean isBusy;
    private final HundiHall hall = new HundiHall();
    private final Model model = new Model();
    private String call = "";

    private ModelTests(long seed) {
        this.seed = seed * 7919 + 17;
    }

    public static void main(String[] args) {
        for (int run = 0; run < RUNS && wrong < 20; run++) {
            new ModelTests(run).play(run);
        }
        check.part("ModelTests");
        check.due("answers unlike the model's", wrong, 0);
        StringBuilder all = new StringBuilder();
        for (int i = 0; i < seen.length; i++) {
            check.due(Model.RARE[i] + " were seen (" + seen[i] + ")", seen[i] >= 100, true);
            all.append(i == 0 ? "" : ", ").append(Model.RARE[i]).append(" ").append(seen[i]);
        }
        System.out.println(right + " calls answered like the model; seen: " + all);
        check.end("ModelTests");
    }

    private int next(int bound) {
        seed = seed * 6364136223846793005L + 1442695040888963407L;
        return (int) ((seed >>> 33) % bound);
    }

    /** Mostly a number below the bound, seldom one that is odd. */
    private int pick(int bound) {
        if (next(60) == 0) {
            return ODD[next(ODD.length)];
        }
        return next(Math.max(1, bound));
    }

    private int money() {
        if (next(60) == 0) {
            return ODD[next(ODD.length)];
        }
        return next(12) == 0 ? next(3) : next(scale) + 1;
    }

    private int code() {
        return next(80) == 0 ? (next(2) == 0 ? 9999 : 10000) : next(2);
    }

    private int hours() {
        int kind = next(12);
        return kind < 6 ? 1 : kind < 9 ? 1 + next(6) : kind < 11 ? 1 + next(130) : next(503);
    }

    private void play(int run) {
        scale = run % 5 == 0 ? 1000000 : run % 2 == 0 ? 1000 : 60;
        isLong = run % 10 == 7 || run % 10 == 4;
        isBusy = run % 10 == 9;
        int wanted = isLong ? 9 + next(4) : isBusy ? 3 + next(3) : 3 + next(6);
        for (int i = 0; i < wanted; i++) {
            int town = pick(8);
            int cash = Math.min(1000000, next(3) * (isBusy ? 1000 : scale));
            int rate = rate();
            step("broker(" + town + "," + cash + "," + rate + ")", () -> hall.broker(town, cash, rate),
                    () -> model.broker(town, cash, rate), run);
        }
        brokers = wanted;
        int trusts = isLong || isBusy ? 2 : run % 3 == 0 ? wanted * wanted : wanted * 5 / 2;
        for (int i = 0; i < trusts; i++) {
            trust(run);
        }
        int chained = isLong || isBusy ? trustInARow(run) : 0;
        int used = wanted + trusts + chained;
        for (int i = used; i < CALLS && wrong < 20; i++) {
            if (next(3) == 0) {
                ask(run);
            } else {
                act(run);
            }
        }
        for (int i = 0; i < seen.length; i++) {
            seen[i] += model.seen[i];
        }
    }

    /** Lets each broker trust the one ahead in the row, without which long ways are rare, and the one behind. */
    private int trustInARow(int run) {
        int made = 0;
        for (int i = 1; i < brokers; i++) {
            trust(run, i, i - 1, 1000000, false);
            made++;
            if (isBusy) {
                trust(run, i - 1, i, 1000000, false);
                made++;
            }
        }
        return made;
    }

    /** A shorter way beside the row, mostly while a message is on its way alone: it would be taken at once else. */
    private void trustAhead(int run) {
        int by = 1 + next(brokers - 1);
        int other = Math.max(0, by - 1 - next(3));
        boolean isOpen = other == by - 1 || isOnItsWay() || next(8) == 0;
        trust(run, by, other, isOpen ? 1000000 : next(scale), next(2) == 0);
    }

    private void trust(int run, int by, int other, int limit, boolean isKin) {
        step("trust(" + by + "," + other + "," + limit + "," + isKin + ")",
                () -> { hall.trust(by, other, limit, isKin); return 0; },
                () -> model.trust(by, other, limit, isKin), run);
    }

    private boolean isOnItsWay() {
        return orders > 0 && model.orderOf(orders - 1, 0) == HundiHall.ON_ITS_WAY;
    }

    /** A broker between the first and the last one of a way, if there is one, since new ways are rare without. */
    private int between() {
        for (int i = orders - 1; i >= 0; i--) {
            if (model.orderOf(i, 0) == HundiHall.ON_ITS_WAY) {
                int place = (int) model.orderOf(i, 3) + 1 + (isLong ? next(4) : 0);
                if (model.wayOf(i, place + 1) != HundiHall.NONE) {
                    return (int) model.wayOf(i, place);
                }
            }
        }
        return next(brokers);
    }

    private int rate() {
        return next(60) == 0 ? 101 : next(3) == 0 ? 0 : next(3) == 0 ? next(101) : 10 * next(4);
    }

    private void trust(int run) {
        int by = pick(brokers);
        int other = pick(brokers);
        int limit = Math.min(1000000, Math.max(-2, money()) * (1 + next(run % 4 == 0 ? 12 : 3)));
        trust(run, by, other, limit, next(2) == 0);
    }

    private int kind() {
        if (isBusy) {
            return next(3) != 0 ? next(2) * 25 : next(35);
        }
        if (isLong && isOnItsWay()) {
            return next(4) != 0 ? 30 : next(3) == 0 ? 35 : 15 + next(6);
        }
        int kind = isOnItsWay() && next(8) == 0 ? 35 : next(40);
        return isLong && kind >= 35 && kind < 38 && next(4) != 0 ? 20 : kind;
    }

    private void act(int run) {
        int kind = kind();
        int a = isLong && next(2) == 0 ? next(2) : pick(brokers);
        int b = isLong && next(2) == 0 ? brokers - 1 : pick(brokers);
        int money = isLong || isBusy ? 1 + next(60) : money();
        int hours = !isLong ? hours() : isOnItsWay() ? 1 + next(2) : 500;
        int order = pick(orders);
        int code = code();
        int rate = rate();
        int name = next(6) == 0 ? pick(20) : 3;
        if (kind < 9) {
            String text = step("order(" + a + "," + b + "," + money + "," + name + "," + code + ")",
                    () -> hall.order(a, b, money, name, code), () -> model.order(a, b, money, name, code), run);
            orders += text.endsWith("Exception") ? 0 : 1;
        } else if (kind < 15) {
            step("fetch(" + order + "," + code + ")", () -> hall.fetch(order, code), () -> model.fetch(order, code), run);
        } else if (kind < 21) {
            step("pass(" + hours + ")", () -> hall.pass(hours), () -> model.pass(hours), run);
        } else if (kind < 23) {
            step("pay(" + a + "," + b + "," + money + ")", () -> hall.pay(a, b, money), () -> model.pay(a, b, money), run);
        } else if (kind < 25) {
            step("deliver(" + a + "," + b + "," + money + ")", () -> hall.deliver(a, b, money),
                    () -> model.deliver(a, b, money), run);
        } else if (kind < 27) {
            String text = step("courier(" + a + "," + b + "," + money + "," + hours + ")",
                    () -> hall.courier(a, b, money, hours), () -> model.courier(a, b, money, hours), run);
            couriers += text.endsWith("Exception") ? 0 : 1;
        } else if (kind < 29) {
            int courier = pick(couriers);
            step("rob(" + courier + ")", () -> hall.rob(courier), () -> model.rob(courier), run);
        } else if (kind < 30) {
            step("ring()", () -> hall.ring(), () -> model.ring(), run);
        } else if (kind < 33) {
            if (isLong) {
                trustAhead(run);
            } else {
                trust(run);
            }
        } else if (kind < 35) {
            step("rate(" + a + "," + rate + ")", () -> hall.rate(a, rate), () -> model.rate(a, rate), run);
        } else {
            actSeldom(run, kind, a, money, name);
        }
    }

    private void actSeldom(int run, int kind, int a, int money, int name) {
        if (kind < 36) {
            int raided = next(4) == 0 ? a : between();
            step("raid(" + raided + ")", () -> hall.raid(raided), () -> model.raid(raided), run);
        } else if (kind < 37 && next(6) == 0) {
            int broken = next(2) == 0 ? a : between();
            step("breakWord(" + broken + ")", () -> hall.breakWord(broken), () -> model.breakWord(broken), run);
        } else if (kind < 38) {
            step("festival()", () -> hall.festival() ? 1 : 0, () -> model.festival(), run);
        } else if (kind < 39) {
            int town = pick(8);
            step("law(" + town + "," + money + ")", () -> hall.law(town, money), () -> model.law(town, money), run);
        } else {
            step("list(" + name + ")", () -> hall.list(name) ? 1 : 0, () -> model.list(name), run);
        }
    }

    private void ask(int run) {
        int kind = next(20);
        int a = pick(brokers);
        int b = pick(brokers);
        int order = pick(orders);
        int what = pick(8);
        int place = pick(brokers + 1);
        int money = money();
        boolean isBook = next(3) != 0;
        if (kind < 4) {
            step("brokerOf(" + a + "," + what % 5 + ")", () -> hall.brokerOf(a, what % 5), () -> model.brokerOf(a, what % 5), run);
        } else if (kind < 8) {
            step("debt(" + a + "," + b + "," + isBook + ")", () -> hall.debt(a, b, isBook), () -> model.debt(a, b, isBook), run);
        } else if (kind < 10) {
            step("agree(" + a + "," + b + ")", () -> hall.agree(a, b) ? 1 : 0, () -> model.agree(a, b), run);
        } else if (kind < 12) {
            step("way(" + a + "," + b + "," + money + "," + place + ")", () -> hall.way(a, b, money, place),
                    () -> model.way(a, b, money, place), run);
        } else if (kind < 14) {
            step("wayOf(" + order + "," + place + ")", () -> hall.wayOf(order, place), () -> model.wayOf(order, place), run);
        } else if (kind < 17) {
            step("orderOf(" + order + "," + what + ")", () -> hall.orderOf(order, what), () -> model.orderOf(order, what), run);
        } else if (kind < 18) {
            step("inquiry()", () -> hall.inquiry(), () -> model.inquiry(), run);
        } else {
            step("sum(" + what + ")", () -> hall.sum(what), () -> model.sum(what), run);
        }
    }

    private String step(String text, Check.Call ours, Check.Call theirs, int run) {
        String got = Check.outcome(ours);
        String want = Check.outcome(theirs);
        if (got.equals(want)) {
            right++;
        } else {
            wrong++;
            System.out.println("run " + run + ": " + text + " answered " + got + ", the model says " + want);
        }
        return want;
    }
}
