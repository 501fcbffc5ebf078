/** Promise 1: nothing is there at first, and what the three arguments mean. */
public final class NewObjectTest {
    private static final int[] ARGUMENTS = {0, 1, 2, 3, 4, 7, 13, 15, 16, 17, -1, -2, -16, Integer.MIN_VALUE,
        Integer.MAX_VALUE};

    /** "Nothing there" */
    private static void nothingThere() {
        Net net = new Net();
        Check.due("network()", -1, net.network());
        Check.due("router(3)", -1, net.router(3));
        Check.due("power(0, false)", false, net.power(0, false));
        Check.due("node(0, 1)", -1, net.node(0, 1));
        Check.due("name(1)", -1, net.name(1, "a:b"));
        Check.due("drop(0)", false, net.drop(0));
        Check.due("lookup(1)", -1, net.lookup(1, "=:=@*"));
        Check.due("found(0)", -1, net.found(0));
        Check.due("route(0, 0)", -1, net.route(0, 0));
        Check.due("hops(0, 0)", -1, net.hops(0, 0));
        Check.due("open(1, 0)", -1, net.open(1, 0));
        Check.due("command(0, 0, 0, 1)", -1, net.command(0, 0, 0, 1));
        Check.due("status(0)", -1, net.status(0));
        Check.due("reply(0)", 0, net.reply(0));
        Check.due("missing(0)", -1, net.missing(0));
        Check.due("ledger(0, 0)", 0, net.ledger(0, 0));
        Check.due("packets()", 0, net.packets());
        Check.due("tick()", 0, net.tick());
    }

    /** "no faults" */
    private static void noFaults() {
        Net net = Net.session(0, 0, 0);
        net.command(0, 0, 0, 8);
        Check.due("status with no faults said", 2, net.status(0));
    }

    /** "no tick yet": the first tick is 1, which is odd, and what was learnt in it ages in the second. */
    private static void noTickYet() {
        Net net = Net.mesh(3, 3, 6).go("t");
        Entry.due(net, 0, 2, "1>1@1");
        Entry.due(net.go("-1 t"), 0, 2, "1S>1@1");

        net = Net.mesh(3, 3, 6).go("t2");
        Entry.due(net, 0, 2, "1>1@1");
        Entry.due(net.go("-1 t"), 0, 2, "1>1@1");
    }

    /** "INTERVAL is 1 + the lowest two bits of interval (1 .. 4)" */
    private static void interval(int argument) {
        Net net = Net.session(argument, 1, 15);
        net.faults(-1);
        net.command(0, 0, 0, 1);
        int ticks = 0;
        while (net.packets() == 1 && ticks < 40) {
            net.tick();
            ticks++;
        }
        Check.due("ticks to the second try, interval " + argument, 1 + Math.floorMod(argument, 4), ticks);
    }

    /** "TRIES is 1 + the lowest two bits of tries (1 .. 4)" */
    private static void tries(int argument) {
        Net net = Net.session(0, argument, 15);
        net.faults(-1);
        net.command(0, 0, 0, 1);
        for (int i = 0; i < 40 && net.status(0) == 1; i++) {
            net.tick();
        }
        Check.due("status when all tries are over", 3, net.status(0));
        Check.due("tries, tries " + argument, 1 + Math.floorMod(argument, 4), net.packets());
    }

    /** "RELEASE is 1 + the lowest four bits of release (1 .. 16)" */
    private static void release(int argument) {
        Net net = Net.session(3, 0, argument);
        net.faults(2);
        net.command(0, 0, 0, 1);
        Check.due("entries while the answer is on its way", 1, net.ledger(0, 5));
        int ticks = 0;
        while (net.ledger(0, 5) == 1 && ticks < 40) {
            net.tick();
            ticks++;
        }
        Check.due("ticks to the release, release " + argument, 1 + Math.floorMod(argument, 16), ticks);
    }

    /** "An object is used for at most 512 calls after it has been made": the last of them answers as the first. */
    private static void fiveHundredAndTwelveCalls() {
        Net net = Net.session(0, 0, 0);
        int before = net.calls();
        while (net.calls() < Net.MOST_CALLS - 5) {
            Check.due("command " + (net.calls() - before), net.calls() - before, net.command(0, 4, net.calls(), 8));
        }
        int commands = net.calls() - before;
        Check.due("commands done", commands, net.ledger(0, 4));
        Check.due("packets", 10 * commands, net.packets());
        Check.due("reply", before + commands - 2, net.reply(0));
        Check.due("tick", 2, net.tick());
        Check.due("the 512th call", 2, net.status(0));
        Check.due("calls", Net.MOST_CALLS, net.calls());
    }

    public static void main(String[] args) {
        nothingThere();
        noFaults();
        noTickYet();
        for (int argument : ARGUMENTS) {
            interval(argument);
            tries(argument);
            release(argument);
        }
        fiveHundredAndTwelveCalls();
        Check.end();
    }
}
