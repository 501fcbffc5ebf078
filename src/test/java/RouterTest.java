/** ROUTERS, promises 4, 5 and 12: making routers, turning them on and off, and their entries in one number. */
public final class RouterTest {
    private static void refusedMask(Net net, int mask) {
        Refused.is(net, "router(" + mask + ")", -1, n -> n.router(mask));
    }

    /** "Refused (-1) if these are not 2 to 4 networks": the lower end. */
    private static void twoPorts() {
        Net net = Net.mesh(5);
        refusedMask(net, 0);
        for (int k = 0; k < 5; k++) {
            refusedMask(net, 1 << k);
        }
        Check.due("router with two ports", 0, net.again().router(0b00011));
        Check.due("router with two others", 0, net.again().router(0b10001));
        refusedMask(Scene.rich(), 1);
    }

    /** "Refused (-1) if these are not 2 to 4 networks": the upper end. */
    private static void fourPorts() {
        Net net = Net.mesh(8);
        Check.due("router with three ports", 0, net.again().router(0b00000111));
        Check.due("router with four ports", 0, net.again().router(0b00001111));
        Check.due("router with four others", 0, net.again().router(0b11110000));
        refusedMask(net, 0b00011111);
        refusedMask(net, 0b11111000);
        refusedMask(net, 0b11111111);
        refusedMask(net, -1);
        refusedMask(net, Integer.MAX_VALUE);
    }

    /** "all of them there": the last network is there, the one behind it is not. */
    private static void allOfThemThere() {
        for (int networks = 0; networks <= 8; networks++) {
            Net net = Net.mesh(networks);
            if (networks >= 2) {
                Check.due("router to the last of " + networks, 0, net.again().router(1 | 1 << networks - 1));
            }
            for (int k = Math.max(networks, 1); k < 32; k++) {
                Check.due("router to " + k + " of " + networks, -1, net.router(1 | 1 << k));
            }
            Check.due("no router was made", -1, net.route(0, 0));
        }
        Net rich = Scene.rich();
        refusedMask(rich, 1 | 1 << Scene.NETWORKS);
        refusedMask(rich, 3 | 1 << Scene.NETWORKS);
        refusedMask(rich, 3 | 1 << 8);
        refusedMask(rich, 3 | 1 << 31);
        refusedMask(rich, 1 | 1 << 31);
    }

    /** "at most 6"; "or 6 routers are there" */
    private static void sixRouters() {
        Net net = Net.mesh(5);
        int[] masks = {3, 7, 15, 30, 17, 24};
        for (int i = 0; i < 6; i++) {
            Check.due("router " + i, i, net.router(masks[i]));
        }
        refusedMask(net, 3);
        refusedMask(Scene.brim(), 3);
        Net off = Scene.brim().go("-5");
        refusedMask(off, 3);
    }

    /** "which is on, with ports on the networks k for which bit k of mask is set" and its OWN entries. */
    private static void ownEntries() {
        Net net = Net.mesh(5, 0b10110);
        Check.due("it is on already", false, net.again().power(0, true));
        Entry.table(net, 0, "- 0@1 0@2 - 0@4");
        Entry.table(net.go("t9"), 0, "- 0@1 0@2 - 0@4");
    }

    /** "refused (false) if there is no such router" */
    private static void powerOfNoSuchRouter() {
        Net net = Scene.rich();
        for (int router : Check.outside(Scene.ROUTERS)) {
            Refused.isFalse(net, "power(" + router + ", false)", n -> n.power(router, false));
            Refused.isFalse(net, "power(" + router + ", true)", n -> n.power(router, true));
        }
        Check.due("power(0, false)", true, net.again().power(0, false));
        Check.due("power of the last", true, net.again().power(Scene.ROUTERS - 1, true));
        Net brim = Scene.brim();
        Refused.isFalse(brim, "power(6, false)", n -> n.power(6, false));
        Check.due("power(5, false)", true, brim.power(5, false));
    }

    /** "or it is so already" */
    private static void soAlready() {
        Net net = Scene.rich();
        Refused.isFalse(net, "power(0, true) of one that is on", n -> n.power(0, true));
        Refused.isFalse(net, "power(2, false) of one that is off", n -> n.power(Scene.OFF, false));
        Net two = Net.mesh(3, 3, 6);
        Check.due("power(0, true) when new", false, two.power(0, true));
        Check.due("power(0, false)", true, two.power(0, false));
        Check.due("power(0, false) again", false, two.power(0, false));
        Check.due("power(0, true)", true, two.power(0, true));
        Check.due("power(0, true) again", false, two.power(0, true));
    }

    /** "a router that is off has no entries at all": neither its own ones nor others, nor does it take any. */
    private static void offItHasNoEntries() {
        Net net = Net.mesh(3, 3, 6).go("t");
        Entry.table(net, 0, "0@0 0@1 1>1@1");
        Entry.table(net.go("-0"), 0, "- - -");
        Entry.table(net, 1, "1>0@1 0@1 0@2");
        Entry.table(net.go("t"), 0, "- - -");
        Check.due("pairs of the other one alone", 3, net.tick());
    }

    /** "Turned on it has these alone": those it had before it was turned off are gone. */
    private static void onItHasItsOwnEntriesAlone() {
        Net net = Net.mesh(3, 3, 6).go("t -0 +0");
        Entry.table(net, 0, "0@0 0@1 -");
        Entry.table(net.go("t"), 0, "0@0 0@1 1>1@1");
    }

    /** "its distance, + 16 if it is SUSPECT, + 32 if it is BAD, + 64 if the zone is known, ..": as plain numbers. */
    private static void inOneNumber() {
        Net net = Net.mesh(3, 3, 6);
        Check.due("own entry, port 0", 64, net.route(0, 0));
        Check.due("own entry, port 1", 64 + 1024, net.route(0, 1));
        net.tick();
        Check.due("by router 1", 1 + 64 + 128 * 2 + 1024, net.route(0, 2));
        Check.due("by router 0", 1 + 64 + 128 + 1024, net.route(1, 0));
        net.go("-1 t");
        Check.due("SUSPECT", 1 + 16 + 64 + 128 * 2 + 1024, net.route(0, 2));
        net.go("t2");
        Check.due("BAD", 1 + 32 + 64 + 128 * 2 + 1024, net.route(0, 2));
        net.go("t2");
        Check.due("removed", -1, net.route(0, 2));
        Net last = Net.mesh(8, 3, 5, 9, 17, 33, 192).go("-5 +5");
        Check.due("own entry, port 7", 64 + 7 * 1024, last.route(5, 7));
        Net six = Net.mesh(3, 3, 3, 3, 3, 3, 6).go("t");
        Check.due("by router 5", 1 + 64 + 128 * 6 + 1024, six.route(0, 2));
    }

    /** "-1 if there is no such router or network" */
    private static void routeOfWhatIsNotThere() {
        Net net = Scene.rich();
        for (int router : Check.outside(Scene.ROUTERS)) {
            Check.due("route(" + router + ", 0)", -1, net.route(router, 0));
        }
        for (int network : Check.outside(Scene.NETWORKS)) {
            Check.due("route(0, " + network + ")", -1, net.route(0, network));
        }
        Check.due("route of the last network", true, net.route(0, Scene.NETWORKS - 1) >= 0);
        Net brim = Scene.brim();
        Check.due("route(5, 7)", 64 + 7 * 1024, brim.route(5, 7));
        Check.due("route(6, 7)", -1, brim.route(6, 7));
        Check.due("route(5, 8)", -1, brim.route(5, 8));
    }

    /** "or no entry" */
    private static void routeWithNoEntry() {
        Net net = Net.mesh(4, 3, 6);
        Check.due("not told yet", -1, net.route(0, 2));
        net.go("t4");
        Check.due("told", 1 + 64 + 128 * 2 + 1024, net.route(0, 2));
        Check.due("a network without routers", -1, net.route(0, 3));
    }

    public static void main(String[] args) {
        twoPorts();
        fourPorts();
        allOfThemThere();
        sixRouters();
        ownEntries();
        powerOfNoSuchRouter();
        soAlready();
        offItHasNoEntries();
        onItHasItsOwnEntriesAlone();
        inOneNumber();
        routeOfWhatIsNotThere();
        routeWithNoEntry();
        Check.end();
    }
}
