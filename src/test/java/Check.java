/** What the tests share: comparing an answer with the one that is due, and ending with exit code 1. */
final class Check {
    private static int wrong = 0;
    private static int asked = 0;

    private Check() {
    }

    static void due(String call, long want, long got) {
        asked++;
        if (got != want) {
            wrong++;
            System.out.println(call + " answered " + got + ", due is " + want);
        }
    }

    static void due(String call, boolean want, boolean got) {
        due(call, want ? 1 : 0, got ? 1 : 0);
    }

    static void end() {
        System.out.println(asked + " answers, " + wrong + " of them wrong");
        if (wrong != 0 || asked == 0) {
            System.exit(1);
        }
    }

    static ZoneNet type(ZoneNet net, String text) {
        for (int i = 0; i < text.length(); i++) {
            due("write of '" + text.charAt(i) + "' in " + text, true, net.write(text.charAt(i)));
        }
        return net;
    }

    static int network(ZoneNet net, String zone) {
        return type(net, zone).network();
    }

    static int name(ZoneNet net, int address, String names) {
        return type(net, names).name(address);
    }

    static int lookup(ZoneNet net, int address, String pattern) {
        return type(net, pattern).lookup(address);
    }

    static ZoneNet withNetworks(ZoneNet net, String... zones) {
        for (int i = 0; i < zones.length; i++) {
            due("network " + zones[i], i, network(net, zones[i]));
        }
        return net;
    }

    static void routers(ZoneNet net, int... masks) {
        for (int i = 0; i < masks.length; i++) {
            due("router(" + masks[i] + ")", i, net.router(masks[i]));
        }
    }

    static void ticks(ZoneNet net, int count) {
        for (int i = 0; i < count; i++) {
            net.tick();
        }
    }

    /** Two networks a and b behind one router, a node 1 and a node 9, and the service s:t at 9. */
    static ZoneNet pair(int interval, int tries, int release) {
        ZoneNet net = withNetworks(new ZoneNet(interval, tries, release), "a", "b");
        routers(net, 3);
        due("node(0, 1)", 1, net.node(0, 1));
        due("node(1, 1)", 9, net.node(1, 1));
        due("name(9)", 0, name(net, 9, "s:t"));
        return net;
    }

    /** The same with session 0 from node 1 to the service. */
    static ZoneNet session(int interval, int tries, int release) {
        ZoneNet net = pair(interval, tries, release);
        due("open(1, 0)", 0, net.open(1, 0));
        return net;
    }
}
