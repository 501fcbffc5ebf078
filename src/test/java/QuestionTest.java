/** Calls that only ask change nothing, whether what they ask for is there or not: as little as a refused call does. */
public final class QuestionTest {
    private static void found(Net net) {
        int[] due = {-1, 2, 1, -1};
        for (int k = -1; k <= 2; k++) {
            int at = k;
            Refused.is(net, "found(" + k + ")", due[k + 1], n -> n.found(at));
        }
    }

    private static void route(Net net) {
        for (int router = -1; router <= Scene.ROUTERS; router++) {
            for (int network = -1; network <= Scene.NETWORKS; network++) {
                int r = router;
                int k = network;
                Refused.is(net, "route(" + r + ", " + k + ")", net.again().route(r, k), n -> n.route(r, k));
            }
        }
    }

    private static void hops(Net net) {
        for (int from = -1; from <= Scene.NETWORKS; from++) {
            for (int to = -1; to <= Scene.NETWORKS; to++) {
                int a = from;
                int b = to;
                Refused.is(net, "hops(" + a + ", " + b + ")", net.again().hops(a, b), n -> n.hops(a, b));
            }
        }
    }

    private static void sessions(Net net) {
        int[] status = {-1, 2, 1, 4, 1, 0, -1};
        int[] missing = {-1, 0, 5, 0, 3, 0, -1};
        for (int session = -1; session <= Scene.SESSIONS; session++) {
            int s = session;
            Refused.is(net, "status(" + s + ")", status[s + 1], n -> n.status(s));
            Refused.is(net, "missing(" + s + ")", missing[s + 1], n -> n.missing(s));
            Refused.is(net, "reply(" + s + ")", 0, n -> n.reply(s));
        }
    }

    private static void ledger(Net net) {
        for (int service = -1; service <= Scene.SERVICES; service++) {
            for (int key = -1; key <= 6; key++) {
                int s = service;
                int k = key;
                Refused.is(net, "ledger(" + s + ", " + k + ")", net.again().ledger(s, k), n -> n.ledger(s, k));
            }
        }
    }

    public static void main(String[] args) {
        Net net = Scene.rich();
        found(net);
        route(net);
        hops(net);
        sessions(net);
        ledger(net);
        Refused.is(net, "packets()", 9, n -> n.packets());
        Check.end();
    }
}
