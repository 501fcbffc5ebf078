/** SESSIONS and SILENCE, promises 14 and 16. */
public final class SessionTest {
    private static void refused(Net net, int address, int service, int answer) {
        Refused.is(net, "open(" + address + ", " + service + ")", answer, n -> n.open(address, service));
    }

    /** "-1 if there is no such node" */
    private static void noSuchNode() {
        Net net = Scene.rich();
        int[] addresses = {-1, 0, 2, 6, 7, 8, 9, 11, 15, 16, 18, 21, 23, 24, 25, 63, 64, 65, -7, Integer.MIN_VALUE,
            Integer.MIN_VALUE + 1, Integer.MAX_VALUE};
        for (int address : addresses) {
            refused(net, address, 0, -1);
        }
        for (int address : new int[] {1, 10, 19, 20}) {
            Check.due("open(" + address + ", 0)", Scene.SESSIONS, net.again().open(address, 0));
        }
    }

    /** "or no such service" */
    private static void noSuchService() {
        Net net = Scene.rich();
        for (int service : Check.outside(Scene.SERVICES)) {
            refused(net, 1, service, -1);
        }
        Check.due("open to the first", Scene.SESSIONS, net.again().open(1, 0));
        Check.due("open to the last that is there", Scene.SESSIONS, net.again().open(1, 2));
        Net sixteen = Net.oneNode();
        for (int i = 0; i < 16; i++) {
            sixteen.name(1, (char) ('a' + i) + ":t");
        }
        refused(sixteen, 1, 16, -1);
        Check.due("open(1, 15)", 0, sixteen.open(1, 15));
    }

    /** "or it was dropped" */
    private static void dropped() {
        Net net = Net.pair(0, 0, 0);
        Check.due("open(1, 0)", 0, net.again().open(1, 0));
        net.drop(0);
        refused(net, 1, 0, -1);
        refused(net, 9, 0, -1);
        refused(Scene.rich(), 20, Scene.DROPPED, -1);
    }

    /** "-2 if there is no way from the node's network to the service's" */
    private static void noWay() {
        Net net = new Net().zones("a", "b", "c").routers(3, 5).nodes(1, 17);
        Check.due("service at 17", 0, net.name(17, "x:y"));
        Check.due("hops(0, 2)", -1, net.hops(0, 2));
        Check.due("hops(2, 0)", 1, net.hops(2, 0));
        refused(net, 1, 0, -2);
        Check.due("open(1, 0) with ways", 0, net.go("t").open(1, 0));
    }

    /** "or none back" */
    private static void noWayBack() {
        Net net = new Net().zones("a", "b", "c").routers(3, 5).nodes(1, 17);
        Check.due("service at 1", 0, net.name(1, "x:y"));
        refused(net, 17, 0, -2);
        Check.due("open(17, 0) with ways", 0, net.go("t").open(17, 0));
    }

    /** The same with none at all; on one network there is always a way. */
    private static void noRouter() {
        Net net = Net.pair(0, 0, 0).go("-0");
        refused(net, 1, 0, -2);
        Check.due("open(9, 0) on the service's network", 0, net.open(9, 0));
        Check.due("open(1, 0) with the router on", 1, net.go("+0").open(1, 0));
    }

    /** "at most 12 in all"; "-3 if 12 sessions were opened": closed ones count too. */
    private static void twelve() {
        Net net = Net.pair(0, 0, 0);
        for (int i = 0; i < 12; i++) {
            Check.due("session " + i, i, net.open(1, 0));
        }
        refused(net, 1, 0, -3);
        net.go("-0 t5 +0");
        Check.due("status(11)", 4, net.status(11));
        refused(net, 1, 0, -3);
        refused(Scene.brim(), 1, 0, -3);
    }

    /** "when it is 5 the session is closed": open after four ticks, closed after five. */
    private static void fiveSilentTicks() {
        Net net = Net.session(3, 3, 15).go("-0 t4");
        Check.due("status after four", 0, net.status(0));
        Check.due("a command after four", 0, net.again().command(0, 0, 0, 1));
        net.go("t");
        Check.due("status after five", 4, net.status(0));
        Refused.is(net, "a command after five", -1, n -> n.command(0, 0, 0, 1));
    }

    /** "it becomes 0 if there are ways" */
    private static void countedAnew() {
        Net net = Net.session(3, 3, 15).go("-0 t4 +0 t -0 t4");
        Check.due("status after four and four", 0, net.status(0));
        Check.due("status after five more", 4, net.go("t").status(0));
    }

    /** "each open session has a count, 0 at first" of its own. */
    private static void eachItsCount() {
        Net net = Net.session(3, 3, 15).go("-0 t3 +0");
        Check.due("open(1, 0)", 1, net.open(1, 0));
        net.go("-0 t2");
        Check.due("status(0)", 4, net.status(0));
        Check.due("status(1)", 0, net.status(1));
        net.go("t2");
        Check.due("status(1) after four", 0, net.status(1));
        Check.due("status(1) after five", 4, net.go("t").status(1));
    }

    /** Router 2 is on anew before each tick: then the first router of network 2 never hears of network 0. */
    private static Net oneWay() {
        Net net = new Net().zones("a", "b", "c", "d").routers(12, 3, 6).nodes(1, 17);
        Check.due("service at 17", 0, net.name(17, "s:t"));
        Check.due("service at 1", 1, net.name(1, "s:t"));
        return net.go("t2");
    }

    private static void silentOnOneWay(Net net) {
        net.go("-0 +0");
        for (int tick = 1; tick <= 5; tick++) {
            net.go("-2 +2 t");
            Check.due("hops(0, 2)", 2, net.hops(0, 2));
            Check.due("hops(2, 0)", -1, net.hops(2, 0));
            Check.due("status after " + tick, tick < 5 ? 0 : 4, net.status(0));
        }
    }

    /** "ways from the client's network to the service's and back": there is none back. */
    private static void silentWithNoWayBack() {
        Net net = oneWay();
        Check.due("open(1, 0)", 0, net.open(1, 0));
        silentOnOneWay(net);
    }

    /** The same where there is none to the service. */
    private static void silentWithNoWayThere() {
        Net net = oneWay();
        Check.due("open(17, 1)", 0, net.open(17, 1));
        silentOnOneWay(net);
    }

    /** "(whether the service is dropped or not)" */
    private static void silenceOfADroppedService() {
        Net net = Net.session(3, 3, 15);
        net.drop(0);
        Check.due("status after seven ticks with ways", 0, net.go("t7").status(0));
        Check.due("status after four without", 0, net.go("-0 t4").status(0));
        Check.due("status after five without", 4, net.go("t").status(0));
    }

    /** On one network there is always a way. */
    private static void silenceOnOneNetwork() {
        Net net = Net.pair(0, 0, 0);
        Check.due("open(9, 0)", 0, net.open(9, 0));
        Check.due("status after seven ticks", 0, net.go("-0 t7").status(0));
    }

    /** Silence is counted by the tables as the tick's first steps leave them: the way that is told now counts. */
    private static void waysOfTheSameTick() {
        Net net = new Net().zones("a", "b", "c").routers(3, 6).nodes(1, 17);
        Check.due("service at 17", 0, net.name(17, "s:t"));
        net.go("t2");
        Check.due("open(1, 0)", 0, net.open(1, 0));
        net.go("-1 t4 +1");
        Check.due("hops(2, 0) before the tick", -1, net.hops(2, 0));
        Check.due("status after the fifth tick", 0, net.go("t").status(0));
        Check.due("status after four more", 0, net.go("-1 t4").status(0));
        Check.due("status after five", 4, net.go("t").status(0));
    }

    /** "open, or closed for ever" */
    private static void closedForEver() {
        Net net = Net.session(0, 0, 0).go("-0 t5 +0 t9");
        Check.due("hops(0, 1)", 1, net.hops(0, 1));
        Check.due("status", 4, net.status(0));
        Check.due("command", -1, net.command(0, 0, 0, 1));
        Check.due("another session", 1, net.open(1, 0));
        Check.due("its command", 0, net.command(1, 0, 0, 1));
    }

    /** "and its command, if one is under way, has failed": and is tried no more, not even in the same tick. */
    private static void silenceFailsACommand() {
        Net net = Net.session(3, 3, 15).go("-0 t");
        Check.due("command", 0, net.command(0, 4, 7, 3));
        Check.due("status after four", 1, net.go("t3").status(0));
        Check.due("packets", 1, net.packets());
        Check.due("status after five", 7, net.go("t").status(0));
        Check.due("packets where the second try was due", 1, net.packets());
        Check.due("missing", 7, net.missing(0));
        net.go("+0 t9");
        Check.due("status for ever", 7, net.status(0));
        Check.due("packets for ever", 1, net.packets());
    }

    /** The same: what is done stays done, and what has failed has failed. */
    private static void silenceLeavesOtherCommands() {
        Net net = Net.session(0, 0, 0);
        net.command(0, 4, 7, 1);
        net.command(0, 0, 0, 1);
        Check.due("status done and closed", 6, net.go("-0 t5").status(0));
        Check.due("reply when closed", 7, net.reply(0));
        net = Net.session(0, 0, 0).go("-0");
        net.command(0, 4, 7, 1);
        Check.due("status failed", 3, net.go("t").status(0));
        Check.due("status failed and closed", 7, net.go("t4").status(0));
    }

    /** "0 if the session was given no command yet; else 1, 2, 3: its latest one is under way, is done, has failed" */
    private static void status() {
        Net net = Net.session(0, 0, 15);
        Check.due("status with no command", 0, net.status(0));
        net.faults(1);
        net.command(0, 0, 0, 1);
        Check.due("status under way", 1, net.status(0));
        Check.due("status failed", 3, net.go("t").status(0));
        net.command(0, 0, 0, 1);
        Check.due("status of the latest, done", 2, net.status(0));
        net.faults(1);
        net.command(0, 0, 0, 1);
        Check.due("status of the latest, under way", 1, net.status(0));
    }

    /** "+ 4 if the session is closed": to each of 0, 2 and 3; what is under way has failed. */
    private static void statusOfAClosedSession() {
        Net net = Net.pair(0, 0, 15);
        for (int i = 0; i < 4; i++) {
            Check.due("open", i, net.open(1, 0));
        }
        net.command(1, 0, 0, 1);
        net.faults(1);
        net.command(2, 0, 0, 1);
        net.go("t -0 t4");
        net.command(3, 0, 0, 1);
        int[] before = {0, 2, 3, 1};
        int[] after = {4, 6, 7, 7};
        for (int i = 0; i < 4; i++) {
            Check.due("status(" + i + ") when open", before[i], net.status(i));
        }
        net.tick();
        for (int i = 0; i < 4; i++) {
            Check.due("status(" + i + ") when closed", after[i], net.status(i));
        }
    }

    /** "-1 if there is no such session." */
    private static void statusOfNoSession() {
        Net net = Scene.rich();
        for (int session : Check.outside(Scene.SESSIONS)) {
            Check.due("status(" + session + ")", -1, net.status(session));
        }
        Check.due("status(0)", 2, net.status(0));
        Check.due("status of the last", 0, net.status(Scene.SESSIONS - 1));
        Net brim = Scene.brim();
        Check.due("status(11)", 0, brim.status(11));
        Check.due("status(12)", -1, brim.status(12));
    }

    public static void main(String[] args) {
        noSuchNode();
        noSuchService();
        dropped();
        noWay();
        noWayBack();
        noRouter();
        twelve();
        fiveSilentTicks();
        countedAnew();
        eachItsCount();
        silentWithNoWayBack();
        silentWithNoWayThere();
        silenceOfADroppedService();
        silenceOnOneNetwork();
        waysOfTheSameTick();
        closedForEver();
        silenceFailsACommand();
        silenceLeavesOtherCommands();
        status();
        statusOfAClosedSession();
        statusOfNoSession();
        Check.end();
    }
}
