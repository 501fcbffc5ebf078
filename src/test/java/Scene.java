/** Objects with a good deal in them, for calls that must change nothing of it. */
final class Scene {
    /** Where the rich scene's things are: its first free numbers, and what is in which state. */
    static final int NETWORKS = 3;
    static final int ROUTERS = 3;
    static final int SERVICES = 4;
    static final int DROPPED = 3;
    static final int SESSIONS = 5;
    static final int UNDER_WAY = 1;
    static final int CLOSED = 2;
    static final int NOT_HEARD = 3;
    static final int NO_COMMAND = 4;
    static final int OFF = 2;

    private Scene() {
    }

    /**
     * No limit is reached: networks 0, 1 and 2 in a row, a router that is off, a dropped service; session 0 done,
     * 1 under way with the parts 0 and 2 missing, 2 closed, 3 under way with its request lost, 4 with no command; a
     * lookup that found, and faults left.
     */
    static Net rich() {
        Net net = new Net(2, 3, 9).zones("a", "b", "A").routers(3, 6, 5).nodes(1, 10, 19, 20);
        Check.due("service at 10", 0, net.name(10, "tea:pot"));
        Check.due("service at 19", 1, net.name(19, "Ten:cup"));
        Check.due("service at 1", 2, net.name(1, "tee:cup"));
        Check.due("service at 20", DROPPED, net.name(20, "gone:by"));
        net.go("-2 t2");
        Check.due("open(1, 0)", 0, net.open(1, 0));
        Check.due("open(1, 2)", UNDER_WAY, net.open(1, 2));
        Check.due("open(1, 3)", CLOSED, net.open(1, DROPPED));
        Check.due("drop", true, net.drop(DROPPED));
        net.go("-1 t5");
        Check.due("the closed session", 4, net.status(CLOSED));
        net.go("+1 t2");
        Check.due("open(19, 0)", NOT_HEARD, net.open(19, 0));
        Check.due("open(20, 0)", NO_COMMAND, net.open(20, 0));
        Check.due("command", 0, net.command(0, 5, 7, 2));
        Check.due("lookup", 2, net.lookup(1, "te~:=@*"));
        net.faults(0b1010);
        Check.due("command", 0, net.command(UNDER_WAY, 6, 9, 3));
        Check.due("missing parts", 5, net.missing(UNDER_WAY));
        net.faults(1);
        Check.due("command", 0, net.command(NOT_HEARD, 7, 8, 2));
        Check.due("commands done", 1, net.ledger(0, 4));
        net.faults(0b1100110);
        return net;
    }

    /** Every limit is reached: 8 networks, 6 routers, 6 nodes on network 0, 16 services, 12 sessions. */
    static Net brim() {
        Net net = new Net(1, 2, 3).zones("a", "a", "b", "b", "c", "c", "d", "d").routers(3, 6, 12, 24, 48, 192);
        net.nodes(1, 2, 3, 4, 5, 6, 57);
        for (int i = 0; i < 16; i++) {
            Check.due("service " + i, i, net.name(1 + i % 6, (char) ('a' + i) + ":t"));
        }
        for (int i = 0; i < 12; i++) {
            Check.due("session " + i, i, net.open(1 + i % 6, i));
        }
        Check.due("drop(15)", true, net.drop(15));
        net.go("t3");
        return net;
    }
}
