/**
 * Tells whether a refused call changed anything: two halls are made alike, the call is made in one of them, and then
 * both are led through the same lives, each of which begins with a new pair, since a hall is good for 512 calls alone.
 */
final class Twins {
    /** Makes the same hall each time. */
    interface Scene {
        HundiHall make();
    }

    /** A call in a hall that is given. */
    interface Deed {
        long on(HundiHall x);
    }

    private static final int BROKERS = 12;
    private static final int ORDERS = 40;
    private static final int COURIERS = 40;
    private static final int LIVES = 8;

    private Twins() {
    }

    /** The call has to throw the named exception, and to leave the hall as it was. */
    static void refused(Check check, String exception, String text, Scene scene, Deed deed) {
        for (int life = 0; life < LIVES; life++) {
            HundiHall x = scene.make();
            String outcome = Check.outcome(() -> deed.on(x));
            check.due(text, outcome, exception);
            if (!outcome.equals(exception)) {
                return;
            }
            String after = live(x, life);
            check.due(text + ", and then in life " + life, after, live(scene.make(), life));
            check.due(text + ", unnamed exceptions in life " + life, unnamed(after), "");
        }
    }

    private static String live(HundiHall x, int life) {
        StringBuilder told = new StringBuilder();
        switch (life) {
            case 0:
                askBrokers(x, told);
                break;
            case 1:
                askOrders(x, told);
                break;
            case 2:
                askTheRest(x, told);
                break;
            case 3:
                turnEverything(x, told);
                break;
            case 4:
                askWaysInAFestival(x, told);
                break;
            case 5:
                letTimePass(x, told);
                break;
            case 6:
                fetchAll(x, told);
                break;
            default:
                settleAll(x, told);
                break;
        }
        return told.toString();
    }

    /** Exceptions that the document does not name: twins that fail alike would be alike else. */
    private static String unnamed(String told) {
        StringBuilder found = new StringBuilder();
        for (String answer : told.split(" ")) {
            boolean isNamed = answer.equals(Check.INDEX) || answer.equals(Check.ARGUMENT) || answer.equals(Check.STATE);
            if (!isNamed && !answer.matches("-?[0-9]+")) {
                found.append(answer).append(' ');
            }
        }
        return found.toString();
    }

    private static void tell(StringBuilder told, Check.Call call) {
        told.append(Check.outcome(call)).append(' ');
    }

    private static void askBrokers(HundiHall x, StringBuilder told) {
        for (int i = 0; i < BROKERS; i++) {
            int broker = i;
            for (int what = 0; what < 4; what++) {
                int asked = what;
                tell(told, () -> x.brokerOf(broker, asked));
            }
            for (int j = 0; j < BROKERS; j++) {
                int other = j;
                tell(told, () -> x.debt(broker, other, false));
                tell(told, () -> x.debt(broker, other, true));
            }
        }
    }

    private static void askOrders(HundiHall x, StringBuilder told) {
        for (int i = 0; i < ORDERS; i++) {
            int order = i;
            for (int what = 0; what < 6; what++) {
                int asked = what;
                tell(told, () -> x.orderOf(order, asked));
            }
            for (int place = 1; place < 4; place++) {
                int asked = place;
                tell(told, () -> x.wayOf(order, asked));
            }
        }
    }

    private static void askTheRest(HundiHall x, StringBuilder told) {
        for (int i = 0; i < BROKERS; i++) {
            for (int j = 0; j < BROKERS; j++) {
                int broker = i;
                int other = j;
                tell(told, () -> x.agree(broker, other) ? 1 : 0);
                tell(told, () -> x.way(broker, other, 10, 1));
            }
        }
        askSums(x, told);
        tell(told, () -> x.inquiry());
    }

    private static void askSums(HundiHall x, StringBuilder told) {
        for (int what = 0; what < 8; what++) {
            int asked = what;
            tell(told, () -> x.sum(asked));
        }
    }

    /** What can be seen by being changed alone, and the numbers that come next. */
    private static void turnEverything(HundiHall x, StringBuilder told) {
        for (int i = 0; i < BROKERS; i++) {
            int broker = i;
            tell(told, () -> x.rate(broker, 0));
        }
        for (int i = 0; i < 8; i++) {
            int town = i;
            tell(told, () -> x.order(0, 1, 51, 0, 0));
            tell(told, () -> x.law(town, 0));
        }
        for (int i = 0; i < 20; i++) {
            int name = i;
            tell(told, () -> x.list(name) ? 1 : 0);
        }
        for (int i = 0; i < COURIERS; i++) {
            int courier = i;
            tell(told, () -> x.rob(courier));
        }
        tell(told, () -> x.ring());
        tell(told, () -> x.raid(0));
        tell(told, () -> x.inquiry());
        tell(told, () -> x.breakWord(1));
        tell(told, () -> x.broker(0, 0, 0));
        tell(told, () -> x.courier(2, 1, 1, 1));
        tell(told, () -> x.courier(2, 1, 1, 1));
        tell(told, () -> x.pass(1));
        askSums(x, told);
    }

    private static void askWaysInAFestival(HundiHall x, StringBuilder told) {
        tell(told, () -> x.festival() ? 1 : 0);
        for (int i = 0; i < BROKERS; i++) {
            for (int j = 0; j < BROKERS; j++) {
                int broker = i;
                int other = j;
                tell(told, () -> x.way(broker, other, 1000000, 1));
                tell(told, () -> x.way(broker, other, 6000, 1));
            }
        }
    }

    private static void letTimePass(HundiHall x, StringBuilder told) {
        int[] steps = {1, 1, 1, 235, 1, 1, 239, 240, 1, 1};
        for (int step : steps) {
            tell(told, () -> x.pass(step));
            askSums(x, told);
            for (int i = 0; i < BROKERS; i++) {
                int number = i;
                tell(told, () -> x.brokerOf(number, 0));
                tell(told, () -> x.brokerOf(number, 1));
            }
        }
        for (int i = 0; i < ORDERS; i++) {
            int order = i;
            tell(told, () -> x.orderOf(order, 0));
        }
    }

    /** Right codes behind false ones, so that neither a code nor the count of false ones can have changed. */
    private static void fetchAll(HundiHall x, StringBuilder told) {
        int[] codes = {8, 8, 7, 0, 9999};
        for (int i = 0; i < ORDERS; i++) {
            int order = i;
            for (int code : codes) {
                tell(told, () -> x.fetch(order, code));
            }
            tell(told, () -> x.orderOf(order, 4));
        }
        askSums(x, told);
    }

    private static void settleAll(HundiHall x, StringBuilder told) {
        for (int i = 0; i < BROKERS; i++) {
            for (int j = 0; j < BROKERS; j++) {
                int broker = i;
                int other = j;
                tell(told, () -> x.pay(broker, other, 10));
                tell(told, () -> x.deliver(broker, other, 10));
            }
        }
        askSums(x, told);
    }
}
