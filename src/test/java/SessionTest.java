/** Promises 14 and 16: opening sessions, their silence and their status. */
public final class SessionTest {
    private static void notThere() {
        ZoneNet net = Check.pair(0, 0, 0);
        int[] addresses = {0, 2, 7, 8, 10, 16, 17, 64, -1, -7, Integer.MIN_VALUE, Integer.MAX_VALUE};
        for (int address : addresses) {
            Check.due("open(" + address + ", 0)", -1, net.open(address, 0));
        }
        int[] services = {-1, 1, 16, Integer.MIN_VALUE, Integer.MAX_VALUE};
        for (int service : services) {
            Check.due("open(1, " + service + ")", -1, net.open(1, service));
        }
        Check.due("open(1, 0)", 0, net.open(1, 0));
        Check.due("open(9, 0)", 1, net.open(9, 0));
        net.drop(0);
        Check.due("open(1, 0) after the drop", -1, net.open(1, 0));
        net.power(0, false);
        Check.due("open(1, 0) after the drop, with no way", -1, net.open(1, 0));
    }

    private static void noWay() {
        ZoneNet net = Check.pair(0, 0, 0);
        net.power(0, false);
        Check.due("open(1, 0) with the router off", -2, net.open(1, 0));
        Check.due("open(9, 0) on the service's network", 0, net.open(9, 0));
        net.power(0, true);
        Check.due("open(1, 0) with the router on", 1, net.open(1, 0));
    }

    private static void noWayForthOrBack() {
        ZoneNet net = Check.withNetworks(new ZoneNet(0, 0, 0), "a", "b", "c");
        Check.routers(net, 3, 5);
        net.node(0, 1);
        net.node(2, 1);
        Check.name(net, 1, "x:y");
        Check.name(net, 17, "x:y");
        Check.due("open(17, 0) with no way back", -2, net.open(17, 0));
        Check.due("open(1, 1) with no way forth", -2, net.open(1, 1));
        net.tick();
        Check.due("open(17, 0) with ways", 0, net.open(17, 0));
        Check.due("open(1, 1) with ways", 1, net.open(1, 1));
    }

    private static void twelve() {
        ZoneNet net = Check.pair(0, 0, 0);
        for (int i = 0; i < 12; i++) {
            Check.due("session " + i, i, net.open(1, 0));
        }
        Check.due("a thirteenth", -3, net.open(1, 0));
        Check.due("a thirteenth at no node", -1, net.open(2, 0));
        net.power(0, false);
        Check.due("a thirteenth with no way", -2, net.open(1, 0));
        Check.ticks(net, 5);
        net.power(0, true);
        Check.due("a thirteenth when all are closed", -3, net.open(1, 0));
        Check.due("status(11)", 4, net.status(11));
        Check.due("status(12)", -1, net.status(12));
    }

    private static void silence() {
        ZoneNet net = Check.session(3, 3, 15);
        net.power(0, false);
        Check.ticks(net, 4);
        Check.due("status after four silent ticks", 0, net.status(0));
        net.power(0, true);
        net.tick();
        net.power(0, false);
        Check.ticks(net, 4);
        Check.due("status after four more", 0, net.status(0));
        net.tick();
        Check.due("status after five", 4, net.status(0));
        net.power(0, true);
        Check.ticks(net, 3);
        Check.due("status of a closed session, for ever", 4, net.status(0));
        Check.due("command on it", -1, net.command(0, 0, 0, 1));
        Check.due("command on it with a wrong key", -1, net.command(0, 9, 0, 1));
    }

    private static void silenceMakesACommandFail() {
        ZoneNet net = Check.session(3, 3, 15);
        net.faults(2);
        net.command(0, 4, 7, 3);
        Check.due("missing(0)", 1, net.missing(0));
        net.power(0, false);
        Check.ticks(net, 4);
        Check.due("status after four", 1, net.status(0));
        Check.due("packets after the second try", 5, net.packets());
        net.tick();
        Check.due("status after five", 7, net.status(0));
        Check.due("missing(0) after it failed", 1, net.missing(0));
        net.power(0, true);
        Check.ticks(net, 9);
        Check.due("status for ever", 7, net.status(0));
        Check.due("packets: it is tried no more", 5, net.packets());
    }

    private static void aDoneCommandStaysDone() {
        ZoneNet net = Check.session(0, 0, 0);
        net.command(0, 4, 7, 1);
        net.command(0, 0, 0, 1);
        net.power(0, false);
        Check.ticks(net, 5);
        Check.due("status done and closed", 6, net.status(0));
        Check.due("reply when closed", 7, net.reply(0));
    }

    private static void noSilenceOnOneNetworkOrWithADroppedService() {
        ZoneNet net = Check.pair(0, 0, 0);
        net.open(9, 0);
        net.open(1, 0);
        net.drop(0);
        Check.ticks(net, 7);
        Check.due("status, the service dropped", 0, net.status(1));
        net.power(0, false);
        Check.ticks(net, 7);
        Check.due("status on the service's network", 0, net.status(0));
        Check.due("status with no way", 4, net.status(1));
    }

    private static void statusOfNoSession() {
        ZoneNet net = Check.session(0, 0, 0);
        int[] none = {-1, 1, 12, Integer.MIN_VALUE, Integer.MAX_VALUE};
        for (int session : none) {
            Check.due("status(" + session + ")", -1, net.status(session));
        }
        Check.due("status(0) with no command", 0, net.status(0));
        net.command(0, 0, 0, 1);
        Check.due("status(0) done", 2, net.status(0));
    }

    public static void main(String[] args) {
        notThere();
        noWay();
        noWayForthOrBack();
        twelve();
        silence();
        silenceMakesACommandFail();
        aDoneCommandStaysDone();
        noSilenceOnOneNetworkOrWithADroppedService();
        statusOfNoSession();
        Check.end();
    }
}
