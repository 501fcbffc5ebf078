/** Promise 11 and the steps 1 to 4 of a tick: telling, ageing, taking and zones. */
public final class TickTest {
    private static int entry(int distance, int next, int port) {
        return distance + 64 + 128 * (1 + next) + 1024 * port;
    }

    private static void pairsOfOneRouter() {
        int[] masks = {3, 7, 15};
        int[] due = {2, 6, 12};
        for (int i = 0; i < masks.length; i++) {
            ZoneNet net = Check.withNetworks(new ZoneNet(0, 0, 0), "a", "b", "c", "d");
            Check.due("a tick without routers", 0, net.tick());
            Check.routers(net, masks[i]);
            Check.due("tick with the mask " + masks[i], due[i], net.tick());
            net.power(0, false);
            Check.due("tick with the router off", 0, net.tick());
            net.power(0, true);
            Check.due("tick with the router on", due[i], net.tick());
        }
    }

    private static ZoneNet chain() {
        ZoneNet net = Check.withNetworks(new ZoneNet(0, 0, 0), "a", "b", "c", "d", "e");
        Check.routers(net, 3, 6, 12, 24);
        return net;
    }

    /** What is told is as the tables are before the tick: news goes one router a tick. */
    private static void newsGoOneRouterATick() {
        ZoneNet net = chain();
        int[] pairs = {8, 14, 18, 20, 20};
        for (int tick = 0; tick < pairs.length; tick++) {
            Check.due("tick " + (tick + 1), pairs[tick], net.tick());
            for (int k = 2; k < 5; k++) {
                int due = tick >= k - 2 ? entry(k - 1, 1, 1) : -1;
                Check.due("route(0, " + k + ") after tick " + (tick + 1), due, net.route(0, k));
            }
            for (int k = 2; k >= 0; k--) {
                int due = tick >= 2 - k ? entry(3 - k, 2, 3) : -1;
                Check.due("route(3, " + k + ") after tick " + (tick + 1), due, net.route(3, k));
            }
        }
    }

    private static void goneIsTold() {
        ZoneNet net = Check.withNetworks(new ZoneNet(0, 0, 0), "a", "b", "c", "d");
        Check.routers(net, 3, 6, 12);
        Check.ticks(net, 4);
        net.power(2, false);
        int near = entry(1, 2, 2);
        int far = entry(2, 1, 1);
        int[] dueNear = {near, near + 16, near + 16, near + 32, near + 32, -1};
        int[] dueFar = {far, far, far, far, far + 32, -1};
        for (int i = 0; i < dueNear.length; i++) {
            Check.due("tick " + (i + 5), 8, net.tick());
            Check.due("route(1, 3) after tick " + (i + 5), dueNear[i], net.route(1, 3));
            Check.due("route(0, 3) after tick " + (i + 5), dueFar[i], net.route(0, 3));
        }
        Check.due("tick 11", 6, net.tick());
    }

    private static void atTheSameDistanceTheLaterOneIsTaken() {
        ZoneNet net = Check.withNetworks(new ZoneNet(0, 0, 0), "a", "b", "c");
        Check.routers(net, 3, 6, 6);
        net.tick();
        Check.due("route(0, 2), two ways", entry(1, 2, 1), net.route(0, 2));
        Check.due("route(1, 0)", entry(1, 0, 1), net.route(1, 0));

        net = Check.withNetworks(new ZoneNet(0, 0, 0), "a", "b", "c");
        Check.routers(net, 3, 7);
        net.tick();
        Check.due("route(0, 2), one router on two ports", entry(1, 1, 1), net.route(0, 2));
        Check.due("an own entry is not changed", 64 + 1024, net.route(0, 1));
    }

    /** Router 1 loses the short way to network 3 by router 2 and takes the longer one by 3 and 4. */
    private static void fartherByTheSameWay() {
        ZoneNet net = Check.withNetworks(new ZoneNet(0, 0, 0), "a", "b", "c", "d", "e");
        Check.routers(net, 3, 6, 12, 20, 24);
        Check.ticks(net, 4);
        Check.due("route(1, 3)", entry(1, 2, 2), net.route(1, 3));
        Check.due("route(0, 3)", entry(2, 1, 1), net.route(0, 3));
        net.power(2, false);
        Check.ticks(net, 3);
        Check.due("route(1, 3) after tick 7", entry(1, 2, 2) + 16, net.route(1, 3));
        net.tick();
        Check.due("route(1, 3) after tick 8", entry(2, 3, 2), net.route(1, 3));
        Check.due("route(0, 3) after tick 8", entry(2, 1, 1), net.route(0, 3));
        net.tick();
        Check.due("route(0, 3) after tick 9", entry(3, 1, 1), net.route(0, 3));
    }

    private static void nothingIsToldOnTheEntrysOwnPort() {
        ZoneNet net = Check.withNetworks(new ZoneNet(0, 0, 0), "a", "b", "c");
        Check.routers(net, 3, 6);
        net.tick();
        net.power(1, false);
        net.power(1, true);
        net.tick();
        Check.due("route(1, 0)", entry(1, 0, 1), net.route(1, 0));
        net.power(0, false);
        Check.ticks(net, 6);
        Check.due("route(1, 0) is not told back by anyone", -1, net.route(1, 0));
    }

    public static void main(String[] args) {
        pairsOfOneRouter();
        newsGoOneRouterATick();
        goneIsTold();
        atTheSameDistanceTheLaterOneIsTaken();
        fartherByTheSameWay();
        nothingIsToldOnTheEntrysOwnPort();
        Check.end();
    }
}
