/** Halls that many tests begin with, and small things that they do in them. */
final class Halls {
    private Halls() {
    }

    /** Brokers in a row, each with no cash and the rate 0, each but the first trusting the one ahead. */
    static HundiHall chain(int count, int limit) {
        HundiHall x = new HundiHall();
        for (int i = 0; i < count; i++) {
            x.broker(i % 8, 0, 0);
            if (i > 0) {
                x.trust(i, i - 1, limit, false);
            }
        }
        return x;
    }

    /** Brokers with all the cash that can be told, and no trust. */
    static HundiHall richOnes(int count) {
        HundiHall x = new HundiHall();
        for (int i = 0; i < count; i++) {
            x.broker(i % 8, 1000000, 0);
        }
        return x;
    }

    /** Lets the debtor owe the creditor, both knowing it, by a courier that comes in the hour that comes. */
    static void owe(HundiHall x, int debtor, int creditor, int amount) {
        x.courier(creditor, debtor, amount, 1);
    }

    static void pass(HundiHall x, int hours) {
        for (int left = hours; left > 0; left -= 500) {
            x.pass(Math.min(left, 500));
        }
    }

    static void fetchFalse(HundiHall x, int order, int code, int times) {
        for (int i = 0; i < times; i++) {
            x.fetch(order, code);
        }
    }

    static String wayText(HundiHall x, int first, int last, int amount) {
        StringBuilder text = new StringBuilder();
        for (int i = 0; i < 13; i++) {
            int broker = x.way(first, last, amount, i);
            if (broker == HundiHall.NONE) {
                break;
            }
            text.append(i == 0 ? "" : "-").append(broker);
        }
        return text.toString();
    }

    static String wayTextOf(HundiHall x, int order) {
        StringBuilder text = new StringBuilder();
        for (int i = 0; i < 13; i++) {
            int broker = x.wayOf(order, i);
            if (broker == HundiHall.NONE) {
                break;
            }
            text.append(i == 0 ? "" : "-").append(broker);
        }
        return text.toString();
    }
}
