/** Promises 7 and 8: making services and dropping them. */
public final class NameTest {
    private static ZoneNet oneNode() {
        ZoneNet net = Check.withNetworks(new ZoneNet(0, 0, 0), "z");
        net.node(0, 1);
        return net;
    }

    private static void noSuchNode() {
        ZoneNet net = oneNode();
        int[] addresses = {0, 2, 6, 7, 8, 9, 64, 65, -1, -7, Integer.MIN_VALUE, Integer.MIN_VALUE + 1, Integer.MAX_VALUE};
        for (int address : addresses) {
            Check.due("name(" + address + ")", -1, Check.name(net, address, "a:b"));
            Check.due("name(" + address + ") with a wrong text", -1, Check.name(net, address, "a"));
        }
        Check.due("name(1)", 0, Check.name(net, 1, "a:b"));
    }

    private static void wrongTexts() {
        ZoneNet net = oneNode();
        String[] texts = {"", ":", "a", "a:", ":b", "a:b:c", "a::b", "::", "a:b@", "a:b@*", "=:b", "a:=", "a~:b", "a:~",
            "*:b", "a:b*", "@:b", "a@:b", "a:@b", "a@b"};
        for (String text : texts) {
            Check.due("name with " + text, -2, Check.name(net, 1, text));
        }
        Check.due("name with spaces", 0, Check.name(net, 1, " : "));
        Check.due("name with 32 characters", 1, Check.name(net, 1, "abcdefghijklmno:abcdefghijklmnop"));
        Check.due("the same again", -3, Check.name(net, 1, "abcdefghijklmno:abcdefghijklmnop"));
    }

    private static void takenNames() {
        ZoneNet net = oneNode();
        net.node(0, 2);
        Check.due("Ab:Cz", 0, Check.name(net, 1, "Ab:Cz"));
        Check.due("aB:cZ at another node", -3, Check.name(net, 2, "aB:cZ"));
        Check.due("another type", 1, Check.name(net, 2, "ab:c"));
        Check.due("another object", 2, Check.name(net, 2, "a:cz"));
        Check.due("@ is not a small letter's capital", -2, Check.name(net, 2, "@:x"));
        Check.due("[:x", 3, Check.name(net, 2, "[:x"));
        Check.due("{:x is not alike", 4, Check.name(net, 2, "{:x"));
        Check.due("drop(0)", true, net.drop(0));
        Check.due("a dropped service's names", 5, Check.name(net, 2, "ab:cz"));
        Check.due("and again", -3, Check.name(net, 1, "AB:CZ"));
    }

    private static void namesInOtherNetworks() {
        ZoneNet net = Check.withNetworks(new ZoneNet(0, 0, 0), "z", "Z", "y");
        net.node(0, 1);
        net.node(1, 1);
        net.node(2, 1);
        Check.due("at network 0", 0, Check.name(net, 1, "a:b"));
        Check.due("at network 1, no way", 1, Check.name(net, 9, "a:b"));
        Check.routers(net, 7);
        Check.due("at network 2, another zone", 2, Check.name(net, 17, "a:b"));
        Check.due("c:d at network 0", 3, Check.name(net, 1, "c:d"));
        Check.due("c:d at network 1, same zone", -3, Check.name(net, 9, "c:d"));
        net.power(0, false);
        Check.due("c:d at network 1, the router off", 4, Check.name(net, 9, "c:d"));
    }

    private static void sixteen() {
        ZoneNet net = oneNode();
        for (int i = 0; i < 16; i++) {
            Check.due("service " + i, i, Check.name(net, 1, (char) ('a' + i) + ":t"));
        }
        Check.due("a seventeenth", -4, Check.name(net, 1, "x:t"));
        Check.due("a seventeenth that is taken", -3, Check.name(net, 1, "A:t"));
        Check.due("a seventeenth that is wrong", -2, Check.name(net, 1, "a"));
        Check.due("drop(0)", true, net.drop(0));
        Check.due("a seventeenth when one is dropped", -4, Check.name(net, 1, "a:t"));
    }

    private static void drop() {
        ZoneNet net = oneNode();
        Check.name(net, 1, "a:b");
        Check.name(net, 1, "c:d");
        int[] nothing = {-1, 2, 16, Integer.MIN_VALUE, Integer.MAX_VALUE};
        for (int service : nothing) {
            Check.due("drop(" + service + ")", false, net.drop(service));
        }
        Check.due("drop(1)", true, net.drop(1));
        Check.due("drop(1) again", false, net.drop(1));
        Check.due("lookup after the drop", 1, Check.lookup(net, 1, "=:=@*"));
        Check.due("found(0)", 0, net.found(0));
        Check.due("open to the dropped one", -1, net.open(1, 1));
    }

    public static void main(String[] args) {
        noSuchNode();
        wrongTexts();
        takenNames();
        namesInOtherNetworks();
        sixteen();
        drop();
        Check.end();
    }
}
