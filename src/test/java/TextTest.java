/** Promises 2 and 3: the text, who empties it, and networks whose zones are names. */
public final class TextTest {
    private static void characters() {
        for (int code = 0; code < 700; code++) {
            boolean fine = code >= 32 && code <= 126;
            Check.due("write of code " + code, fine, new ZoneNet(0, 0, 0).write((char) code));
        }
        Check.due("write of code 65535", false, new ZoneNet(0, 0, 0).write((char) 65535));
    }

    private static void length() {
        ZoneNet net = Check.type(new ZoneNet(0, 0, 0), "abcdefghijklmnopqrstuvwxyz012345");
        Check.due("write of a 33rd character", false, net.write('6'));
        Check.due("write of a sign as the 33rd", false, net.write(':'));
        Check.due("network with 32 characters", 0, net.network());
        Check.due("write into the emptied text", true, net.write('x'));
    }

    private static void refusedWriteChangesNothing() {
        ZoneNet net = Check.type(new ZoneNet(0, 0, 0), "z");
        net.write((char) 31);
        net.write((char) 127);
        net.write((char) 0);
        net.network();
        net.node(0, 1);
        Check.name(net, 1, "a:b");
        Check.due("lookup in the zone z", 1, Check.lookup(net, 1, "=:=@z"));
    }

    private static void zonesAreNames() {
        ZoneNet net = new ZoneNet(0, 0, 0);
        Check.due("network without text", -1, net.network());
        for (char sign : ":@=~*".toCharArray()) {
            Check.due("network of one sign", -1, Check.network(net, "" + sign));
            Check.due("network beginning with " + sign, -1, Check.network(net, sign + "a"));
            Check.due("network ending with " + sign, -1, Check.network(net, "a" + sign));
            Check.due("network with " + sign + " within", -1, Check.network(net, "a" + sign + "b"));
        }
        Check.due("network of a space", 0, Check.network(net, " "));
        Check.due("network of other marks", 1, Check.network(net, "!\"#$%&'()+,-./;<>?[\\]^_`{|}"));
        Check.due("a second network of the same zone", 2, Check.network(net, " "));
    }

    private static void eightNetworks() {
        ZoneNet net = Check.withNetworks(new ZoneNet(0, 0, 0), "a", "b", "c", "d", "e", "f", "g", "h");
        Check.due("a ninth network", -1, Check.network(net, "i"));
        Check.due("node(7, 1)", 57, net.node(7, 1));
        Check.due("name: the text is empty", -2, net.name(57));
        Check.due("hops(7, 7)", 0, net.hops(7, 7));
        Check.due("hops(8, 8)", -1, net.hops(8, 8));
    }

    private static void emptied(String by, ZoneNet net) {
        Check.due("name with text b:c after " + by, 0, Check.name(net, 1, "b:c"));
    }

    /** A text that is left over would stand before the names that are written next. */
    private static void textIsEmptiedWhateverIsAnswered() {
        ZoneNet net = Check.withNetworks(new ZoneNet(0, 0, 0), "z");
        net.node(0, 1);
        Check.due("network", -1, Check.network(net, ":"));
        emptied("a refused network", net);
        Check.due("drop(0)", true, net.drop(0));
        Check.due("name at no node", -1, Check.name(net, 2, "x:y"));
        Check.due("name with text b:c after name -1", 1, Check.name(net, 1, "b:c"));
        Check.due("name not so", -2, Check.name(net, 1, "xy"));
        Check.due("a taken name after name -2", -3, Check.name(net, 1, "b:c"));
        Check.due("a taken name after name -3", -3, Check.name(net, 1, "b:c"));
        Check.due("lookup at no node", -1, Check.lookup(net, 2, "x:y@*"));
        Check.due("a taken name after lookup -1", -3, Check.name(net, 1, "b:c"));
        Check.due("lookup of no pattern", -2, Check.lookup(net, 1, "x"));
        Check.due("a taken name after lookup -2", -3, Check.name(net, 1, "b:c"));
        Check.due("lookup", 1, Check.lookup(net, 1, "b:c@*"));
        Check.due("a taken name after a lookup", -3, Check.name(net, 1, "b:c"));
        Check.due("a name that is made", 2, Check.name(net, 1, "d:e"));
        Check.due("a name after it", -3, Check.name(net, 1, "b:c"));
    }

    private static void otherCallsLeaveTheText() {
        ZoneNet net = Check.withNetworks(new ZoneNet(0, 0, 0), "a", "b");
        Check.type(net, "c");
        net.router(3);
        net.power(0, false);
        net.node(0, 1);
        net.drop(0);
        net.found(0);
        net.tick();
        net.route(0, 0);
        net.hops(0, 1);
        net.open(1, 0);
        net.command(0, 0, 0, 1);
        net.status(0);
        net.reply(0);
        net.missing(0);
        net.ledger(0, 0);
        net.faults(1);
        net.packets();
        Check.due("network with the text kept", 2, net.network());
    }

    public static void main(String[] args) {
        characters();
        length();
        refusedWriteChangesNothing();
        zonesAreNames();
        eightNetworks();
        textIsEmptiedWhateverIsAnswered();
        otherCallsLeaveTheText();
        Check.end();
    }
}
