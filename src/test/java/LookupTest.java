/** Promises 9 and 10: patterns, where is looked, and what is found in which order. */
public final class LookupTest {
    private static ZoneNet four() {
        ZoneNet net = Check.withNetworks(new ZoneNet(0, 0, 0), "Zone");
        net.node(0, 1);
        String[] names = {"Clock:time", "clack:Time", "c:t", "ck:x"};
        for (int i = 0; i < names.length; i++) {
            Check.due("name " + names[i], i, Check.name(net, 1, names[i]));
        }
        return net;
    }

    private static void finds(ZoneNet net, String pattern, int... due) {
        Check.due("lookup of " + pattern, due.length, Check.lookup(net, 1, pattern));
        for (int k = 0; k < due.length; k++) {
            Check.due("found(" + k + ") of " + pattern, due[k], net.found(k));
        }
        Check.due("found behind the last of " + pattern, -1, net.found(due.length));
    }

    private static void masks() {
        ZoneNet net = four();
        finds(net, "=:=@*", 0, 1, 2, 3);
        finds(net, "~:~@*", 0, 1, 2, 3);
        finds(net, "c~k:=@*", 0, 1, 3);
        finds(net, "C~K:T~@*", 0, 1);
        finds(net, "c~ck:=@*", 0, 1);
        finds(net, "ck~k:=@*");
        finds(net, "ck~ck:=@*");
        finds(net, "c~c:=@*");
        finds(net, "clock~:=@*", 0);
        finds(net, "~clock:=@*", 0);
        finds(net, "clo~ck:=@*", 0);
        finds(net, "cloc~ock:=@*");
        finds(net, "~c:=@*", 2);
        finds(net, "c~:=@*", 0, 1, 2, 3);
        finds(net, "c:T@*", 2);
        finds(net, "=:TIME@*", 0, 1);
        finds(net, "=:~e@*", 0, 1);
        finds(net, "=:tim@*");
        finds(net, "=:times@*");
        finds(net, "clock:time@zONE", 0);
        finds(net, "clock:time@zon");
        finds(net, "=:=@other");
    }

    private static void noPatterns() {
        ZoneNet net = four();
        String[] texts = {"", "=", "a:b", "=:=", "=:=@", ":=@*", "=:@*", ":@", ":@*", "=::@*", "a@b:c", "@:", "=:=@*x",
            "=:=@x*", "=:=@**", "=:=@=", "=:=@~", "=:=@z~", "==:=@*", "~~:=@*", "~a~:=@*", "=~:=@*", "a=:=@*",
            "=a:=@*", "*:=@*", "=:*@*", "a:b@c@d", "a:b:c@d", "=:=@a:b", "@=:=@*"};
        for (String text : texts) {
            Check.due("lookup of " + text, -2, Check.lookup(net, 1, text));
        }
        int[] addresses = {0, 2, 7, 8, 9, -1, -7, 64, 65, Integer.MIN_VALUE, Integer.MAX_VALUE};
        for (int address : addresses) {
            Check.due("lookup(" + address + ")", -1, Check.lookup(net, address, "=:=@*"));
            Check.due("lookup(" + address + ") of no pattern", -1, Check.lookup(net, address, "="));
        }
        Check.due("found(0) after these", -1, net.found(0));
    }

    private static void foundIsOfTheLatestLookup() {
        ZoneNet net = four();
        Check.due("found(0) before any lookup", -1, net.found(0));
        finds(net, "c~k:=@*", 0, 1, 3);
        int[] none = {-1, 3, 16, Integer.MIN_VALUE, Integer.MAX_VALUE};
        for (int k : none) {
            Check.due("found(" + k + ")", -1, net.found(k));
        }
        Check.due("a refused lookup", -2, Check.lookup(net, 1, "="));
        Check.due("a lookup at no node", -1, Check.lookup(net, 5, "=:=@*"));
        Check.due("a refused name", -3, Check.name(net, 1, "c:t"));
        Check.due("a name", 4, Check.name(net, 1, "n:n"));
        net.drop(0);
        Check.due("found(0) still", 0, net.found(0));
        Check.due("found(2) still", 3, net.found(2));
        finds(net, "c:t@*", 2);
        Check.due("found(1) no more", -1, net.found(1));
        finds(net, "q:q@*");
    }

    private static void theNearestFirst() {
        ZoneNet net = Check.withNetworks(new ZoneNet(0, 0, 0), "z", "Z", "z", "Z");
        Check.routers(net, 3, 6, 12);
        int[] at = {25, 9, 1, 10, 17};
        for (int address : at) {
            net.node(address / 8, address % 8);
        }
        for (int i = 0; i < at.length; i++) {
            Check.due("name " + i, i, Check.name(net, at[i], (char) ('a' + i) + ":t"));
        }
        finds(net, "=:=@z", 2, 1, 3);
        Check.ticks(net, 3);
        finds(net, "=:=@z", 2, 1, 3, 4, 0);
        Check.due("lookup from the other end", 5, Check.lookup(net, 25, "=:t@*"));
        int[] due = {0, 4, 1, 3, 2};
        for (int k = 0; k < due.length; k++) {
            Check.due("found(" + k + ") from the other end", due[k], net.found(k));
        }
        net.power(1, false);
        finds(net, "=:=@z", 2, 1, 3);
    }

    private static void onlyInTheZone() {
        ZoneNet net = Check.withNetworks(new ZoneNet(0, 0, 0), "a", "b");
        Check.routers(net, 3);
        net.node(0, 1);
        net.node(1, 1);
        Check.name(net, 1, "x:y");
        Check.name(net, 9, "x:y");
        finds(net, "=:=@*", 0);
        finds(net, "=:=@a", 0);
        finds(net, "=:=@B", 1);
        Check.due("lookup(9)", 1, Check.lookup(net, 9, "=:=@*"));
        Check.due("found(0)", 1, net.found(0));
        net.power(0, false);
        finds(net, "=:=@b");
        finds(net, "=:=@a", 0);
    }

    /** Before the first tick router 0, the first of network 0, knows no way to network 2. */
    private static void notWhereNoWayLeadsBack() {
        ZoneNet net = Check.withNetworks(new ZoneNet(0, 0, 0), "z", "y", "z");
        Check.routers(net, 3, 5);
        net.node(0, 1);
        net.node(2, 1);
        Check.name(net, 1, "x:y");
        Check.due("hops(2, 0)", 1, net.hops(2, 0));
        Check.due("hops(0, 2)", -1, net.hops(0, 2));
        Check.due("lookup(17) with no way back", 0, Check.lookup(net, 17, "=:=@z"));
        net.tick();
        Check.due("lookup(17) with ways", 1, Check.lookup(net, 17, "=:=@z"));
    }

    /**
     * Router 4 is off until the others have counted the way to network 4 up to 15; when it and router 0 are on
     * again, router 0 takes a stale pair from one that has just lost its entry, and has the zone a tick late.
     */
    private static void notWhereTheZoneIsNotKnown() {
        ZoneNet net = Check.withNetworks(new ZoneNet(0, 0, 0), "z", "z", "z", "z", "z");
        Check.routers(net, 3, 11, 20, 3, 12);
        net.node(0, 1);
        net.node(4, 1);
        Check.name(net, 33, "x:y");
        Check.ticks(net, 4);
        finds(net, "=:=@z", 0);
        net.power(4, false);
        Check.ticks(net, 10);
        net.power(0, false);
        Check.ticks(net, 4);
        net.power(4, true);
        net.tick();
        net.power(0, true);
        net.tick();
        Check.due("there is an entry, zone not known", true, net.route(0, 4) >= 0 && (net.route(0, 4) & 64) == 0);
        Check.due("there is a way", true, net.hops(0, 4) > 0);
        Check.due("there is a way back", true, net.hops(4, 0) > 0);
        finds(net, "=:=@z");
        net.tick();
        Check.due("the zone is known", true, (net.route(0, 4) & 64) != 0);
        finds(net, "=:=@z", 0);
    }

    public static void main(String[] args) {
        masks();
        noPatterns();
        foundIsOfTheLatestLookup();
        theNearestFirst();
        onlyInTheZone();
        notWhereNoWayLeadsBack();
        notWhereTheZoneIsNotKnown();
        Check.end();
    }
}
