/** "Where several refusals are named with one call, the first that holds, in the order named, is answered." */
public final class OrderTest {
    private static void name(Net net, int address, String text, int answer) {
        Refused.emptying(net, text, "name(" + address + ")", answer, n -> n.name(address));
    }

    private static void open(Net net, int address, int service, int answer) {
        Refused.is(net, "open(" + address + ", " + service + ")", answer, n -> n.open(address, service));
    }

    private static void command(Net net, int session, int key, int parts, int answer) {
        Refused.is(net, "command(" + session + ", " + key + ", 5, " + parts + ")", answer,
                n -> n.command(session, key, 5, parts));
    }

    /** name: no such node, before a text that is not so, a name that is taken, and 16 services. */
    private static void nameAtNoNode() {
        name(Scene.rich(), 2, "a", -1);
        name(Scene.rich(), 2, "", -1);
        name(Scene.rich(), 2, "tee:cup", -1);
        name(Scene.brim(), 7, "x:y", -1);
        name(Scene.brim(), 7, "a:t", -1);
        name(Scene.brim(), 7, "x", -1);
    }

    /** name: a text that is not so, before 16 services. */
    private static void nameWithAWrongText() {
        name(Scene.brim(), 1, "x", -2);
        name(Scene.brim(), 1, "a:t:", -2);
        name(Scene.brim(), 1, "", -2);
    }

    /** name: a name that is taken, before 16 services. */
    private static void nameThatIsTaken() {
        name(Scene.brim(), 1, "a:t", -3);
        name(Scene.brim(), 6, "O:T", -3);
        name(Scene.brim(), 1, "p:t", -4);
    }

    /** lookup: no such node, before a text that is no pattern. */
    private static void lookupAtNoNode() {
        for (String text : new String[] {"", "=", "a:b", "=:=@"}) {
            Refused.emptying(Scene.rich(), text, "lookup(2)", -1, n -> n.lookup(2));
            Refused.emptying(Scene.rich(), text, "lookup(1)", -2, n -> n.lookup(1));
        }
    }

    /** Twelve sessions; the router can be turned off. */
    private static Net twelve() {
        Net net = Net.pair(0, 0, 0);
        for (int i = 0; i < 12; i++) {
            Check.due("session " + i, i, net.open(1, 0));
        }
        return net;
    }

    /** open: no such node or service, or a dropped one, before no way. */
    private static void openOfNothingBeforeNoWay() {
        Net net = Net.pair(0, 0, 0).go("-0");
        open(net, 2, 0, -1);
        open(net, 1, 1, -1);
        open(net, 1, 0, -2);
        net.drop(0);
        open(net, 1, 0, -1);
    }

    /** open: no such node or service, or a dropped one, before 12 sessions. */
    private static void openOfNothingBeforeTwelve() {
        Net net = twelve();
        open(net, 2, 0, -1);
        open(net, 1, 1, -1);
        open(net, 1, 0, -3);
        net.drop(0);
        open(net, 1, 0, -1);
    }

    /** open: no way, before 12 sessions. */
    private static void openWithNoWayBeforeTwelve() {
        Net net = twelve().go("-0");
        open(net, 1, 0, -2);
        open(net, 9, 0, -3);
        open(net, 2, 0, -1);
        net.drop(0);
        open(net, 1, 0, -1);
    }

    /** command: no such session or a closed one, before a wrong key or wrong parts. */
    private static void commandOfNoSession() {
        for (int session : new int[] {-1, Scene.SESSIONS, Scene.CLOSED}) {
            command(Scene.rich(), session, 8, 1, -1);
            command(Scene.rich(), session, -1, 1, -1);
            command(Scene.rich(), session, 0, 0, -1);
            command(Scene.rich(), session, 0, 9, -1);
            command(Scene.rich(), session, 8, 9, -1);
        }
    }

    /** command: one that is under way, before a wrong key or wrong parts. */
    private static void commandUnderWay() {
        command(Scene.rich(), Scene.UNDER_WAY, 8, 1, -2);
        command(Scene.rich(), Scene.UNDER_WAY, -1, 1, -2);
        command(Scene.rich(), Scene.UNDER_WAY, 0, 0, -2);
        command(Scene.rich(), Scene.UNDER_WAY, 0, 9, -2);
        command(Scene.rich(), Scene.UNDER_WAY, 8, 9, -2);
    }

    /** command: a wrong key with wrong parts. */
    private static void commandWrongInBoth() {
        command(Scene.rich(), 0, 8, 9, -3);
        command(Scene.rich(), 0, -1, 0, -3);
    }

    /** Those that name several refusals with one answer: all of them at once. */
    private static void allAtOnce() {
        Refused.is(Scene.brim(), "router(-1)", -1, n -> n.router(-1));
        Refused.is(Scene.brim(), "node(8, 7)", -1, n -> n.node(8, 7));
        Refused.is(Scene.brim(), "node(0, 0)", -1, n -> n.node(0, 0));
        Refused.emptying(Scene.brim(), "~", "network", -1, Net::network);
    }

    public static void main(String[] args) {
        nameAtNoNode();
        nameWithAWrongText();
        nameThatIsTaken();
        lookupAtNoNode();
        openOfNothingBeforeNoWay();
        openOfNothingBeforeTwelve();
        openWithNoWayBeforeTwelve();
        commandOfNoSession();
        commandUnderWay();
        commandWrongInBoth();
        allAtOnce();
        Check.end();
    }
}
