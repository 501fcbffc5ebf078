/** Promise 13: ways and their hops. */
public final class HopsTest {
    private static void notThere() {
        ZoneNet net = Check.withNetworks(new ZoneNet(0, 0, 0), "a", "b");
        int[] nowhere = {-1, 2, 8, Integer.MIN_VALUE, Integer.MAX_VALUE};
        for (int network : nowhere) {
            Check.due("hops(0, " + network + ")", -1, net.hops(0, network));
            Check.due("hops(" + network + ", 0)", -1, net.hops(network, 0));
            Check.due("hops(" + network + ", " + network + ")", -1, net.hops(network, network));
        }
    }

    private static void withoutRouters() {
        ZoneNet net = Check.withNetworks(new ZoneNet(0, 0, 0), "a", "b");
        Check.due("hops(1, 1)", 0, net.hops(1, 1));
        Check.due("hops(0, 1)", -1, net.hops(0, 1));
    }

    private static void chain() {
        ZoneNet net = Check.withNetworks(new ZoneNet(0, 0, 0), "a", "b", "c", "d", "e", "f", "g", "h");
        Check.routers(net, 3, 6, 12, 24, 48, 96);
        Check.due("hops(0, 1) before a tick", 1, net.hops(0, 1));
        Check.due("hops(0, 2) before a tick", -1, net.hops(0, 2));
        Check.ticks(net, 6);
        for (int a = 0; a < 7; a++) {
            for (int b = 0; b < 7; b++) {
                // The first router of a lies behind a, so going on needs one hop more there.
                int due = a == 0 || b < a ? Math.abs(a - b) : b == a ? 0 : b - a + 1;
                Check.due("hops(" + a + ", " + b + ")", due, net.hops(a, b));
            }
            Check.due("hops(" + a + ", 7)", -1, net.hops(a, 7));
        }
        net.power(3, false);
        Check.due("hops(0, 6) with router 3 off", -1, net.hops(0, 6));
        Check.due("hops(0, 3) with router 3 off", 3, net.hops(0, 3));
    }

    /** A packet goes to the first router even if only another one knows the way. */
    private static void firstRouter() {
        ZoneNet net = Check.withNetworks(new ZoneNet(0, 0, 0), "a", "b", "c");
        Check.routers(net, 3, 5);
        Check.due("hops(0, 2) before a tick", -1, net.hops(0, 2));
        Check.due("hops(2, 0) before a tick", 1, net.hops(2, 0));
        net.power(0, false);
        Check.due("hops(0, 2) with router 0 off", 1, net.hops(0, 2));
        net.power(0, true);
        net.tick();
        Check.due("hops(0, 2) after a tick", 2, net.hops(0, 2));
        net.power(1, false);
        Check.due("hops(0, 2) with router 1 off", -1, net.hops(0, 2));
        Check.due("hops(2, 0) with router 1 off", -1, net.hops(2, 0));
        net.power(1, true);
        Check.due("hops(0, 2) with router 1 on again", 2, net.hops(0, 2));
    }

    /** The entry for network 2 goes SUSPECT and BAD when its router says nothing; that one is on again too late. */
    private static void badEntriesAreNoWay() {
        ZoneNet net = Check.withNetworks(new ZoneNet(0, 0, 0), "a", "b", "c");
        Check.routers(net, 3, 6);
        net.tick();
        net.power(1, false);
        Check.ticks(net, 2);
        net.power(1, true);
        Check.due("route(0, 2)", 1345 + 16, net.route(0, 2));
        Check.due("hops(0, 2) by a SUSPECT entry", 2, net.hops(0, 2));
        net.power(1, false);
        net.tick();
        net.power(1, true);
        Check.due("route(0, 2)", 1345 + 32, net.route(0, 2));
        Check.due("hops(0, 2) by a BAD entry", -1, net.hops(0, 2));
        net.tick();
        Check.due("hops(0, 2) when told again", 2, net.hops(0, 2));
    }

    public static void main(String[] args) {
        notThere();
        withoutRouters();
        chain();
        firstRouter();
        badEntriesAreNoWay();
        Check.end();
    }
}
