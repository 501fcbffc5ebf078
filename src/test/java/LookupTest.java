/** LOOKING, promises 9 and 10: where is looked, what is found in which order, and found. */
public final class LookupTest {
    private static void finds(Net net, int from, String pattern, int... due) {
        Check.due("lookup(" + from + ") of " + pattern, due.length, net.lookup(from, pattern));
        for (int k = 0; k < due.length; k++) {
            Check.due("found(" + k + ") of " + pattern, due[k], net.found(k));
        }
        Check.due("found behind the last of " + pattern, -1, net.found(due.length));
    }

    /** "-1 if there is no such node" */
    private static void noSuchNode() {
        Net net = Scene.rich();
        int[] addresses = {-1, 0, 2, 6, 7, 8, 9, 11, 15, 16, 18, 21, 23, 24, 25, 63, 64, 65, -7, Integer.MIN_VALUE,
            Integer.MIN_VALUE + 1, Integer.MAX_VALUE};
        for (int address : addresses) {
            Refused.emptying(net, "=:=@*", "lookup(" + address + ")", -1, n -> n.lookup(address));
        }
        for (int address : new int[] {1, 10, 19, 20}) {
            Check.due("lookup(" + address + ")", 0, net.lookup(address, "no:one@*"));
        }
        Net last = Net.mesh(8).nodes(62);
        Check.due("lookup(62)", 0, last.lookup(62, "=:=@*"));
        Refused.emptying(last, "=:=@*", "lookup(126)", -1, n -> n.lookup(126));
    }

    /** "the ZONE ASKED FOR is the name behind @, for * the zone of n" */
    private static void zoneAskedFor() {
        Net net = new Net().zones("a", "b").routers(3).nodes(1, 9);
        Check.due("x:y in a", 0, net.name(1, "x:y"));
        Check.due("x:y in b", 1, net.name(9, "x:y"));
        finds(net, 1, "=:=@*", 0);
        finds(net, 9, "=:=@*", 1);
        finds(net, 1, "=:=@B", 1);
        finds(net, 9, "=:=@A", 0);
        finds(net, 1, "=:=@a", 0);
        finds(net, 1, "=:=@c");
        finds(net, 1, "=:=@ab");
    }

    /** "Looked at are: n if its zone is alike", with or without a router. */
    private static void onesOwnNetwork() {
        Net net = new Net().zones("Zone").nodes(1, 2);
        Check.due("x:y", 0, net.name(2, "x:y"));
        finds(net, 1, "=:=@zONE", 0);
        finds(net, 1, "=:=@*", 0);
        finds(net, 1, "=:=@zon");
        finds(net, 1, "=:=@zonee");
    }

    /** Networks 0, 1 and 2 in a row, 0 and 2 in the zone z; x:y is at 2, and the node 1 on 0 looks. */
    private static Net row() {
        Net net = new Net().zones("z", "y", "Z").routers(3, 6).nodes(1, 17);
        Check.due("x:y", 0, net.name(17, "x:y"));
        return net;
    }

    /** "if n has a first router" */
    private static void firstRouter() {
        Net net = row().go("t2");
        finds(net, 1, "=:=@z", 0);
        finds(net.again().go("-0"), 1, "=:=@z");
        Check.due("a router of n", 2, net.router(5));
        finds(net.again(), 1, "=:=@z", 0);
        finds(net.again().go("-0 -1"), 1, "=:=@z", 0);
        finds(net.again().go("-0 -1 -2"), 1, "=:=@z");
    }

    /** "this has an entry for t" */
    private static void anEntry() {
        Net net = row();
        finds(net, 1, "=:=@z");
        finds(net.go("t"), 1, "=:=@z", 0);
        finds(net.go("-0 +0"), 1, "=:=@z");
    }

    /**
     * "with the zone known". Router 4 is off until the others have counted the way to network 4 up to 15; when it and
     * router 0 are on again, router 0 takes a stale pair from one that has just lost its entry, and has the zone late.
     */
    private static void withTheZoneKnown() {
        Net net = new Net().zones("z", "z", "z", "z", "z").routers(3, 11, 20, 3, 12).nodes(1, 33);
        Check.due("x:y", 0, net.name(33, "x:y"));
        finds(net.go("t4"), 1, "=:=@z", 0);
        net.go("-4 t10 -0 t4 +4 t +0 t");
        Check.due("there is an entry, zone not known", true, net.route(0, 4) >= 0 && (net.route(0, 4) & 64) == 0);
        Check.due("there is a way", true, net.hops(0, 4) > 0);
        Check.due("there is a way back", true, net.hops(4, 0) > 0);
        finds(net, 1, "=:=@z");
        net.tick();
        Check.due("the zone is known", true, (net.route(0, 4) & 64) != 0);
        finds(net, 1, "=:=@z", 0);
    }

    /** From network 0 it goes to 2 by the routers 0 and 3, and back by 1 and 2. */
    private static Net ring() {
        Net net = new Net().zones("z", "y", "z", "x").routers(3, 12, 9, 6).nodes(1, 17);
        Check.due("x:y", 0, net.name(17, "x:y"));
        return net.go("t3");
    }

    /** "and there is a way from n to t": the first router's entry is GOOD, but its next router is off. */
    private static void aWay() {
        Net net = ring();
        Entry.due(net, 0, 2, "1>3@1");
        finds(net, 1, "=:=@z", 0);
        net.go("-3");
        Entry.due(net, 0, 2, "1>3@1");
        Check.due("hops(0, 2)", -1, net.hops(0, 2));
        Check.due("hops(2, 0)", 2, net.hops(2, 0));
        finds(net, 1, "=:=@z");
    }

    /** The same: a SUSPECT entry is a way. */
    private static void aWayByASuspectEntry() {
        Net net = ring().go("-3 t +3");
        Entry.due(net, 0, 2, "1S>3@1");
        Check.due("hops(0, 2)", 2, net.hops(0, 2));
        Check.due("hops(2, 0)", 2, net.hops(2, 0));
        finds(net, 1, "=:=@z", 0);
    }

    /** "and one from t to n": router 0, the first of network 0, knows no way to network 2 before the first tick. */
    private static void aWayBack() {
        Net net = new Net().zones("z", "y", "z").routers(3, 5).nodes(1, 17);
        Check.due("x:y", 0, net.name(1, "x:y"));
        Check.due("hops(2, 0)", 1, net.hops(2, 0));
        Check.due("hops(0, 2)", -1, net.hops(0, 2));
        finds(net, 17, "=:=@z");
        finds(net.go("t"), 17, "=:=@z", 0);
    }

    /** "FOUND are the services, not dropped, .. whose object fits the first mask and whose type fits the second" */
    private static void objectAndType() {
        Net net = Net.oneNode();
        String[] names = {"a:b", "b:a", "a:a", "b:b"};
        for (int i = 0; i < names.length; i++) {
            Check.due("name " + names[i], i, net.name(1, names[i]));
        }
        finds(net, 1, "a:b@*", 0);
        finds(net, 1, "b:a@*", 1);
        finds(net, 1, "a:=@*", 0, 2);
        finds(net, 1, "=:a@*", 1, 2);
        finds(net, 1, "=:=@*", 0, 1, 2, 3);
        net.drop(2);
        finds(net, 1, "=:=@*", 0, 1, 3);
        finds(net, 1, "a:a@*");
    }

    /** "in the order of the hops from n to their network, with the same hops in the order of their numbers" */
    private static void order() {
        Net net = new Net().zones("z", "Z", "z", "Z").routers(3, 6, 12);
        int[] at = {25, 9, 1, 10, 17};
        net.nodes(at);
        for (int i = 0; i < at.length; i++) {
            Check.due("name " + i, i, net.name(at[i], (char) ('a' + i) + ":t"));
        }
        finds(net, 1, "=:=@z", 2, 1, 3);
        net.go("t3");
        finds(net, 1, "=:=@z", 2, 1, 3, 4, 0);
        finds(net, 25, "=:t@*", 0, 4, 1, 3, 2);
        finds(net.go("-1"), 1, "=:=@z", 2, 1, 3);
    }

    /** The same hops to different networks: the numbers of the networks are of no account. */
    private static void sameHops() {
        Net net = new Net().zones("z", "z", "z").routers(7).nodes(1, 9, 17);
        int[] at = {17, 9, 17, 9, 1};
        for (int i = 0; i < at.length; i++) {
            Check.due("name " + i, i, net.name(at[i], (char) ('a' + i) + ":t"));
        }
        finds(net, 1, "=:=@z", 4, 0, 1, 2, 3);
    }

    /** All sixteen are found. */
    private static void sixteen() {
        Net net = Net.oneNode();
        for (int i = 0; i < 16; i++) {
            Check.due("service " + i, i, net.name(1, (char) ('a' + i) + ":t"));
        }
        finds(net, 1, "=:=@*", 0, 1, 2, 3, 4, 5, 6, 7, 8, 9, 10, 11, 12, 13, 14, 15);
    }

    /** "-1 if there was no such lookup" */
    private static void foundWithNoLookup() {
        Net net = Net.oneNode();
        Check.due("name", 0, net.name(1, "a:b"));
        Check.due("found(0)", -1, net.found(0));
        Check.due("a refused lookup", -2, net.lookup(1, "="));
        Check.due("found(0)", -1, net.found(0));
        Check.due("a lookup at no node", -1, net.lookup(2, "=:=@*"));
        Check.due("found(0)", -1, net.found(0));
    }

    /** "or it did not find so many, or k is negative" */
    private static void foundOfSoMany() {
        Net net = Net.oneNode();
        for (int i = 0; i < 3; i++) {
            Check.due("service " + i, i, net.name(1, (char) ('a' + i) + ":t"));
        }
        Check.due("lookup", 3, net.lookup(1, "=:=@*"));
        Check.due("found(0)", 0, net.found(0));
        Check.due("found(2)", 2, net.found(2));
        for (int k : Check.outside(3)) {
            Check.due("found(" + k + ")", -1, net.found(k));
        }
        Check.due("lookup that finds one", 1, net.lookup(1, "b:t@*"));
        Check.due("found(0)", 1, net.found(0));
        Check.due("found(1)", -1, net.found(1));
        Check.due("lookup that finds none", 0, net.lookup(1, "q:t@*"));
        Check.due("found(0)", -1, net.found(0));
    }

    /** "by the latest lookup that was not refused": neither a refusal nor what happens afterwards changes it. */
    private static void foundOfTheLatest() {
        Net net = Net.oneNode();
        for (int i = 0; i < 3; i++) {
            Check.due("service " + i, i, net.name(1, (char) ('a' + i) + ":t"));
        }
        Check.due("lookup", 3, net.lookup(1, "=:=@*"));
        Check.due("lookup -2", -2, net.lookup(1, "="));
        Check.due("lookup -1", -1, net.lookup(2, "a:t@*"));
        net.drop(0);
        net.tick();
        for (int k = 0; k < 3; k++) {
            Check.due("found(" + k + ")", k, net.found(k));
        }
    }

    /** "(name is no lookup.)": neither one that makes a service nor one that finds the name taken. */
    private static void nameIsNoLookup() {
        Net net = Net.oneNode();
        Check.due("a:t", 0, net.name(1, "a:t"));
        Check.due("b:t", 1, net.name(1, "b:t"));
        Check.due("found(0) before a lookup", -1, net.found(0));
        Check.due("b:t again", -3, net.name(1, "b:t"));
        Check.due("found(0) before a lookup", -1, net.found(0));
        Check.due("lookup", 2, net.lookup(1, "=:t@*"));
        Check.due("b:t again", -3, net.name(1, "b:t"));
        Check.due("c:t", 2, net.name(1, "c:t"));
        Check.due("found(0)", 0, net.found(0));
        Check.due("found(1)", 1, net.found(1));
        Check.due("found(2)", -1, net.found(2));
    }

    public static void main(String[] args) {
        noSuchNode();
        zoneAskedFor();
        onesOwnNetwork();
        firstRouter();
        anEntry();
        withTheZoneKnown();
        aWay();
        aWayByASuspectEntry();
        aWayBack();
        objectAndType();
        order();
        sameHops();
        sixteen();
        foundWithNoLookup();
        foundOfSoMany();
        foundOfTheLatest();
        nameIsNoLookup();
        Check.end();
    }
}
