/** SERVICES, promises 7 and 8: making services and dropping them. */
public final class NameTest {
    private static void refused(Net net, int address, String text, int answer) {
        Refused.emptying(net, text, "name(" + address + ")", answer, n -> n.name(address));
    }

    /** "-1 if there is no such node": numbers that are no address of a network, and addresses without a node. */
    private static void noSuchNode() {
        Net net = Scene.rich();
        int[] addresses = {-1, 0, 2, 6, 7, 8, 9, 11, 15, 16, 18, 21, 23, 24, 25, 63, 64, 65, -7, Integer.MIN_VALUE,
            Integer.MIN_VALUE + 1, Integer.MAX_VALUE};
        for (int address : addresses) {
            refused(net, address, "new:one", -1);
        }
        for (int address : new int[] {1, 10, 19, 20}) {
            Check.due("name(" + address + ")", Scene.SERVICES, net.again().name(address, "new:one"));
        }
    }

    /** The last address that there can be, and those behind it. */
    private static void theLastAddress() {
        Net net = Net.mesh(8).nodes(62);
        refused(net, 61, "a:b", -1);
        refused(net, 63, "a:b", -1);
        refused(net, 64 + 62, "a:b", -1);
        Check.due("name(62)", 0, net.name(62, "a:b"));
    }

    /** "the text must be a name (the object), : and a name (the type)"; "-2 if the text is not so" */
    private static void textsThatAreNotSo() {
        Net net = Scene.rich();
        String[] texts = {"", ":", "a", "a:", ":b", "a:b:c", "a::b", "::", "a:b:", ":a:b", "a:b@", "a:b@*", "a:b@c",
            "=:b", "a:=", "a~:b", "~:b", "a:~", "a:b~", "*:b", "a:*", "a*:b", "a:b*", "@:b", "a@:b", "a:@b", "a@b"};
        for (String text : texts) {
            refused(net, 1, text, -2);
        }
    }

    /** The same: the shortest text that is so, and the longest. */
    private static void textsThatAreSo() {
        Net net = Net.oneNode();
        Check.due("name of one character each", 0, net.name(1, "a:b"));
        Check.due("name with spaces", 1, net.name(1, " : "));
        Check.due("name with 32 characters", 2, net.name(1, "abcdefghijklmno:abcdefghijklmnop"));
        Check.due("name with a long object", 3, net.name(1, "abcdefghijklmnopqrstuvwxyz0123:b"));
        Check.due("name with a long type", 4, net.name(1, "a:abcdefghijklmnopqrstuvwxyz0123"));
    }

    /** "-3 if LOOKING from this node for the text followed by @* finds a service", also where that makes 34 characters. */
    private static void taken() {
        Net net = Net.oneNode().nodes(2);
        Check.due("Ab:Cz", 0, net.name(1, "Ab:Cz"));
        refused(net, 1, "Ab:Cz", -3);
        refused(net, 2, "aB:cZ", -3);
        Check.due("another type", 1, net.name(2, "ab:c"));
        Check.due("another object", 2, net.name(2, "a:cz"));
        Check.due("[:x", 3, net.name(2, "[:x"));
        Check.due("{:x is not alike", 4, net.name(2, "{:x"));
        Check.due("32 characters", 5, net.name(2, "abcdefghijklmno:abcdefghijklmnop"));
        refused(net, 1, "abcdefghijklmno:abcdefghijklmnop", -3);
        refused(Scene.rich(), 1, "ten:cup", -3);
        refused(Scene.rich(), 19, "TEE:CUP", -3);
    }

    /** The same: a dropped service is not found. */
    private static void takenByADroppedOne() {
        Net net = Net.oneNode();
        Check.due("a:b", 0, net.name(1, "a:b"));
        refused(net, 1, "a:b", -3);
        Check.due("drop(0)", true, net.drop(0));
        Check.due("a:b when 0 is dropped", 1, net.name(1, "a:b"));
        refused(net, 1, "a:b", -3);
    }

    /** The same: what is in another zone, or in the same where no way leads, is not found. */
    private static void takenElsewhere() {
        Net net = new Net().zones("z", "Z", "y").nodes(1, 9, 17);
        Check.due("at network 0", 0, net.name(1, "a:b"));
        Check.due("at network 1, no way", 1, net.name(9, "a:b"));
        net.routers(7);
        Check.due("at network 2, another zone", 2, net.name(17, "a:b"));
        Check.due("c:d at network 0", 3, net.name(1, "c:d"));
        refused(net, 9, "c:d", -3);
        net.go("-0");
        Check.due("c:d at network 1, the router off", 4, net.name(9, "c:d"));
    }

    /** "at most 16 in all"; "-4 if 16 services were made": dropped ones count too. */
    private static void sixteen() {
        Net net = Net.oneNode();
        for (int i = 0; i < 16; i++) {
            Check.due("service " + i, i, net.name(1, (char) ('a' + i) + ":t"));
        }
        refused(net, 1, "x:t", -4);
        Check.due("drop(0)", true, net.drop(0));
        refused(net, 1, "a:t", -4);
        refused(Scene.brim(), 1, "x:t", -4);
        refused(Scene.brim(), 57, "x:t", -4);
    }

    /** "refused (false) if there is no such one" */
    private static void dropOfNoSuchService() {
        Net net = Scene.rich();
        for (int service : Check.outside(Scene.SERVICES)) {
            Refused.isFalse(net, "drop(" + service + ")", n -> n.drop(service));
        }
        Check.due("drop(0)", true, net.again().drop(0));
        Check.due("drop of the last but one", true, net.again().drop(2));
        Net brim = Scene.brim();
        Refused.isFalse(brim, "drop(16)", n -> n.drop(16));
        Check.due("drop(14)", true, brim.drop(14));
    }

    /** "or it was dropped" */
    private static void dropOfADroppedOne() {
        Refused.isFalse(Scene.rich(), "drop of a dropped one", n -> n.drop(Scene.DROPPED));
        Refused.isFalse(Scene.brim(), "drop(15) again", n -> n.drop(15));
        Net net = Net.oneNode();
        Check.due("a:b", 0, net.name(1, "a:b"));
        Check.due("drop(0)", true, net.drop(0));
        Check.due("drop(0) again", false, net.drop(0));
    }

    /** "A service can be dropped; it is never there again": neither found nor opened, and its number is not given anew. */
    private static void neverThereAgain() {
        Net net = Net.oneNode();
        Check.due("a:b", 0, net.name(1, "a:b"));
        Check.due("c:d", 1, net.name(1, "c:d"));
        Check.due("drop(0)", true, net.drop(0));
        net.go("t9");
        Check.due("lookup after the drop", 1, net.lookup(1, "=:=@*"));
        Check.due("found(0)", 1, net.found(0));
        Check.due("open(1, 0)", -1, net.open(1, 0));
        Check.due("open(1, 1)", 0, net.open(1, 1));
        Check.due("a:b anew", 2, net.name(1, "a:b"));
    }

    public static void main(String[] args) {
        noSuchNode();
        theLastAddress();
        textsThatAreNotSo();
        textsThatAreSo();
        taken();
        takenByADroppedOne();
        takenElsewhere();
        sixteen();
        dropOfNoSuchService();
        dropOfADroppedOne();
        neverThereAgain();
        Check.end();
    }
}
