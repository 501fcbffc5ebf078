/** WAYS, promise 13. */
public final class HopsTest {
    /** "-1 if one of them is not there" */
    private static void notThere() {
        Net net = Scene.rich();
        for (int network : Check.outside(Scene.NETWORKS)) {
            Check.due("hops(0, " + network + ")", -1, net.hops(0, network));
            Check.due("hops(" + network + ", 0)", -1, net.hops(network, 0));
            Check.due("hops(" + network + ", " + network + ")", -1, net.hops(network, network));
        }
        Check.due("hops to the last", 0, net.hops(Scene.NETWORKS - 1, Scene.NETWORKS - 1));
        Net brim = Scene.brim();
        Check.due("hops(7, 6)", 1, brim.hops(7, 6));
        Check.due("hops(8, 6)", -1, brim.hops(8, 6));
        Check.due("hops(7, 8)", -1, brim.hops(7, 8));
    }

    /** "if a is b it is there after 0 hops", with or without routers. */
    private static void aIsB() {
        Net net = Net.mesh(2);
        Check.due("hops(1, 1)", 0, net.hops(1, 1));
        net.routers(3);
        Check.due("hops(1, 1) with a router", 0, net.hops(1, 1));
        Check.due("hops(1, 1) with one that is off", 0, net.go("-0").hops(1, 1));
    }

    /** "Else it goes to the first router of a; if there is none, there is no way." */
    private static void noFirstRouter() {
        Net net = Net.mesh(3);
        Check.due("hops(0, 1) without routers", -1, net.hops(0, 1));
        net.routers(3);
        Check.due("hops(0, 1)", 1, net.hops(0, 1));
        Check.due("hops(2, 1) from where none is", -1, net.hops(2, 1));
        Check.due("hops(0, 1) when it is off", -1, net.go("-0").hops(0, 1));
    }

    /** "the one with the least number that is on and has a port there", even if only another one knows the way. */
    private static void theFirstRouter() {
        Net net = Net.mesh(3, 3, 5);
        Check.due("hops(0, 2) by router 0", -1, net.hops(0, 2));
        Check.due("hops(2, 0) by router 1", 1, net.hops(2, 0));
        Check.due("hops(0, 2) by router 1", 1, net.go("-0").hops(0, 2));
        net.go("+0 t");
        Check.due("hops(0, 2) by both", 2, net.hops(0, 2));
        net.go("-1");
        Check.due("hops(0, 2) with router 1 off", -1, net.hops(0, 2));
        Check.due("hops(2, 0) with router 1 off", -1, net.hops(2, 0));
        Check.due("hops(0, 2) with router 1 on again", 2, net.go("+1").hops(0, 2));
    }

    /** "At each router: one hop is counted"; "if the entry's distance is 0, the packet is there" */
    private static void chain() {
        Net net = Net.mesh(8, 3, 6, 12, 24, 48, 96);
        Check.due("hops(0, 1) before a tick", 1, net.hops(0, 1));
        Check.due("hops(0, 2) before a tick", -1, net.hops(0, 2));
        net.go("t6");
        for (int a = 0; a < 7; a++) {
            for (int b = 0; b < 7; b++) {
                // The first router of a lies behind a, so going on needs one hop more there.
                int due = a == 0 || b < a ? Math.abs(a - b) : b == a ? 0 : b - a + 1;
                Check.due("hops(" + a + ", " + b + ")", due, net.hops(a, b));
            }
            Check.due("hops(" + a + ", 7)", -1, net.hops(a, 7));
        }
    }

    /** "if the router has no entry for b .. there is no way": the first one, and one farther on. */
    private static void noEntry() {
        Net net = Net.mesh(4, 3, 6, 12).go("t3");
        Check.due("hops(0, 3)", 3, net.hops(0, 3));
        Check.due("hops(0, 3) when the first is on anew", -1, net.again().go("-0 +0").hops(0, 3));
        Check.due("hops(0, 3) when the second is on anew", -1, net.again().go("-1 +1").hops(0, 3));
        Check.due("hops(0, 3) when the third is off", -1, net.again().go("-2").hops(0, 3));
        Check.due("hops(0, 3) when the third is on anew", 3, net.again().go("-2 +2").hops(0, 3));
    }

    /** "or a BAD one": the next router is on anew in time or too late; a SUSPECT entry is a way. */
    private static void aBadEntry() {
        Net net = Net.mesh(3, 3, 6).go("t -1 t2 +1");
        Entry.due(net, 0, 2, "1S>1@1");
        Check.due("hops(0, 2) by a SUSPECT entry", 2, net.hops(0, 2));
        net.go("-1 t +1");
        Entry.due(net, 0, 2, "1B>1@1");
        Check.due("hops(0, 2) by a BAD entry", -1, net.hops(0, 2));
        Check.due("hops(0, 2) when told again", 2, net.go("t").hops(0, 2));
    }

    /** The same at the second router. */
    private static void aBadEntryFartherOn() {
        Net net = Net.mesh(4, 3, 6, 12).go("t4 -2 t3 +2");
        Entry.due(net, 0, 3, "2>1@1");
        Entry.due(net, 1, 3, "1S>2@2");
        Check.due("hops(0, 3) by a SUSPECT entry", 3, net.hops(0, 3));
        net.go("-2 t +2");
        Entry.due(net, 0, 3, "2>1@1");
        Entry.due(net, 1, 3, "1B>2@2");
        Check.due("hops(0, 3) by a BAD entry", -1, net.hops(0, 3));
    }

    /** "if these are 16 there is no way": two routers send the packet to and fro, each with a GOOD entry. */
    private static void sixteenHops() {
        Net net = Net.mesh(4, 9, 7, 6).go("t -0 t6");
        Entry.due(net, 1, 3, "5>2@1");
        Entry.due(net, 2, 3, "6>1@2");
        Check.due("hops(0, 3)", -1, net.hops(0, 3));
        Check.due("hops(1, 3)", -1, net.hops(1, 3));
    }

    public static void main(String[] args) {
        notThere();
        aIsB();
        noFirstRouter();
        theFirstRouter();
        chain();
        noEntry();
        aBadEntry();
        aBadEntryFartherOn();
        sixteenHops();
        Check.end();
    }
}
