/** Promise 1: nothing is there at first, and what the three arguments mean. */
public final class NewObjectTest {
    private static final int[] ARGUMENTS = {0, 1, 2, 3, 4, 7, 13, 15, 16, -1, -2, Integer.MIN_VALUE, Integer.MAX_VALUE};

    private static void nothingIsThere() {
        ZoneNet net = new ZoneNet(0, 0, 0);
        Check.due("network()", -1, net.network());
        Check.due("router(3)", -1, net.router(3));
        Check.due("power(0, false)", false, net.power(0, false));
        Check.due("node(0, 1)", -1, net.node(0, 1));
        Check.due("name(1)", -1, Check.name(net, 1, "a:b"));
        Check.due("drop(0)", false, net.drop(0));
        Check.due("lookup(1)", -1, Check.lookup(net, 1, "=:=@*"));
        Check.due("found(0)", -1, net.found(0));
        Check.due("route(0, 0)", -1, net.route(0, 0));
        Check.due("hops(0, 0)", -1, net.hops(0, 0));
        Check.due("open(1, 0)", -1, net.open(1, 0));
        Check.due("command(0, 0, 0, 1)", -1, net.command(0, 0, 0, 1));
        Check.due("status(0)", -1, net.status(0));
        Check.due("reply(0)", 0, net.reply(0));
        Check.due("missing(0)", -1, net.missing(0));
        Check.due("ledger(0, 0)", 0, net.ledger(0, 0));
        Check.due("packets()", 0, net.packets());
        Check.due("tick()", 0, net.tick());
    }

    private static void noFaultsAtFirst() {
        ZoneNet net = Check.session(0, 0, 0);
        net.command(0, 0, 0, 8);
        Check.due("status with no faults said", 2, net.status(0));
    }

    private static void interval(int argument) {
        ZoneNet net = Check.session(argument, 1, 15);
        net.faults(-1);
        net.command(0, 0, 0, 1);
        int ticks = 0;
        while (net.packets() == 1 && ticks < 40) {
            net.tick();
            ticks++;
        }
        Check.due("ticks to the second try, interval " + argument, 1 + (argument & 3), ticks);
    }

    private static void tries(int argument) {
        ZoneNet net = Check.session(0, argument, 15);
        net.faults(-1);
        net.command(0, 0, 0, 1);
        for (int i = 0; i < 40 && net.status(0) == 1; i++) {
            net.tick();
        }
        Check.due("status when all tries are over", 3, net.status(0));
        Check.due("tries, tries " + argument, 1 + (argument & 3), net.packets());
    }

    private static void release(int argument) {
        ZoneNet net = Check.session(3, 0, argument);
        net.faults(2);
        net.command(0, 0, 0, 1);
        Check.due("entries while the answer is on its way", 1, net.ledger(0, 5));
        int ticks = 0;
        while (net.ledger(0, 5) == 1 && ticks < 40) {
            net.tick();
            ticks++;
        }
        Check.due("ticks to the release, release " + argument, 1 + (argument & 15), ticks);
    }

    public static void main(String[] args) {
        nothingIsThere();
        noFaultsAtFirst();
        for (int argument : ARGUMENTS) {
            interval(argument);
            tries(argument);
            release(argument);
        }
        Check.end();
    }
}
