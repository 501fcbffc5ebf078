/** Promises 4, 5 and 12: making routers, turning them on and off, and their entries in one number. */
public final class RouterTest {
    private static ZoneNet five() {
        return Check.withNetworks(new ZoneNet(0, 0, 0), "a", "b", "c", "d", "e");
    }

    private static void masks() {
        ZoneNet net = five();
        int[] refused = {0, 1, 2, 16, 31, 32, 33, 64 + 3, 128 + 3, 256 + 3, 1 << 31 | 1, 1 << 31 | 3, -1, Integer.MAX_VALUE};
        for (int mask : refused) {
            Check.due("router(" + mask + ")", -1, net.router(mask));
        }
        Check.routers(net, 3, 7, 15, 30, 17, 24);
        Check.due("a seventh router", -1, net.router(3));
        Check.due("router without networks", -1, new ZoneNet(0, 0, 0).router(3));
    }

    private static void ownEntries() {
        ZoneNet net = five();
        Check.routers(net, 22);
        int[] due = {-1, 1024 + 64, 2 * 1024 + 64, -1, 4 * 1024 + 64};
        for (int k = 0; k < 5; k++) {
            Check.due("route(0, " + k + ")", due[k], net.route(0, k));
        }
        Check.ticks(net, 9);
        Check.due("an own entry after nine ticks", 1024 + 64, net.route(0, 1));
    }

    private static void routeOfWhatIsNotThere() {
        ZoneNet net = five();
        Check.routers(net, 3);
        int[][] asked = {{-1, 0}, {1, 0}, {6, 0}, {0, -1}, {0, 5}, {0, 8}, {Integer.MIN_VALUE, 0},
            {0, Integer.MIN_VALUE}, {Integer.MAX_VALUE, 0}, {0, Integer.MAX_VALUE}};
        for (int[] a : asked) {
            Check.due("route(" + a[0] + ", " + a[1] + ")", -1, net.route(a[0], a[1]));
        }
    }

    private static void power() {
        ZoneNet net = five();
        Check.routers(net, 3, 6);
        Check.due("power(0, true) when new", false, net.power(0, true));
        Check.due("power(0, false)", true, net.power(0, false));
        Check.due("power(0, false) again", false, net.power(0, false));
        Check.due("route(0, 0) when off", -1, net.route(0, 0));
        Check.due("route(1, 1) of the other", 1024 + 64, net.route(1, 1));
        Check.due("power(0, true)", true, net.power(0, true));
        Check.due("power(0, true) again", false, net.power(0, true));
        Check.due("route(0, 0) when on", 64, net.route(0, 0));
        int[] nowhere = {-1, 2, 6, Integer.MIN_VALUE, Integer.MAX_VALUE};
        for (int router : nowhere) {
            Check.due("power(" + router + ", false)", false, net.power(router, false));
            Check.due("power(" + router + ", true)", false, net.power(router, true));
        }
    }

    private static void turnedOnItHasItsOwnEntriesAlone() {
        ZoneNet net = five();
        Check.routers(net, 3, 6);
        net.tick();
        Check.due("route(0, 2) learnt", 1 + 64 + 128 * 2 + 1024, net.route(0, 2));
        net.power(0, false);
        Check.due("route(0, 2) when off", -1, net.route(0, 2));
        net.tick();
        Check.due("a router that is off learns nothing", -1, net.route(0, 2));
        net.power(0, true);
        Check.due("route(0, 2) when on again", -1, net.route(0, 2));
        Check.due("route(0, 1) when on again", 1024 + 64, net.route(0, 1));
        net.tick();
        Check.due("route(0, 2) learnt again", 1 + 64 + 128 * 2 + 1024, net.route(0, 2));
    }

    private static void healthInTheNumber() {
        ZoneNet net = five();
        Check.routers(net, 3, 6);
        net.tick();
        net.power(1, false);
        int good = 1 + 64 + 128 * 2 + 1024;
        int[] due = {good + 16, good + 16, good + 32, good + 32, -1};
        for (int tick = 0; tick < due.length; tick++) {
            net.tick();
            Check.due("route(0, 2) after tick " + (tick + 2), due[tick], net.route(0, 2));
        }
    }

    public static void main(String[] args) {
        masks();
        ownEntries();
        routeOfWhatIsNotThere();
        power();
        turnedOnItHasItsOwnEntriesAlone();
        healthInTheNumber();
        Check.end();
    }
}
