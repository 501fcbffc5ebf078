/** Promise 11 and the first steps of a tick: what is told, how much of it, and how entries age. */
public final class TickTest {
    /** "on each of its ports p, a PAIR .. for each of its entries whose port is not p": 2 to 4 ports. */
    private static void pairsOfOneRouter() {
        int[] masks = {3, 7, 15};
        int[] due = {2, 6, 12};
        for (int i = 0; i < masks.length; i++) {
            Net net = Net.mesh(4, masks[i]);
            Check.due("tick with the mask " + masks[i], due[i], net.tick());
            Check.due("tick 2 with the mask " + masks[i], due[i], net.tick());
        }
    }

    /** "A router that is on tells" */
    private static void onlyThoseThatAreOnTell() {
        Net net = Net.mesh(4);
        Check.due("a tick without routers", 0, net.tick());
        net.routers(3, 14);
        Check.due("both on", 8, net.again().tick());
        Check.due("the first off", 6, net.again().go("-0").tick());
        Check.due("the second off", 2, net.again().go("-1").tick());
        Check.due("both off", 0, net.again().go("-0 -1").tick());
        Check.due("both on anew", 8, net.go("-0 -1 +0 +1").tick());
    }

    /** "(a pair told on two ports is two pairs, and one that no router takes is one too)" */
    private static void countedOnEachPort() {
        Net net = Net.mesh(6, 3, 14);
        Check.due("own entries: 2 * 1 + 3 * 2", 8, net.tick());
        Check.due("with 2 entries more for router 0, 1 more for router 1", 12, net.tick());
        Check.due("a router that nobody hears", 2, net.router(48));
        Check.due("two more pairs", 14, net.tick());
    }

    /** The same for entries that are SUSPECT and BAD: told up to their removal, as GONE in the end. */
    private static void agedEntriesAreTold() {
        Net net = Net.mesh(3, 3, 6).go("t2 -1");
        int[] due = {3, 3, 3, 3, 3, 3, 2};
        for (int i = 0; i < due.length; i++) {
            Check.due("tick " + (i + 3), due[i], net.tick());
        }
    }

    /** "whose port is not p": a router does not tell on a port what it has from there. */
    private static void notOnTheEntrysOwnPort() {
        Net net = Net.mesh(3, 3, 6).go("t");
        Entry.due(net, 1, 0, "1>0@1");
        Entry.due(net.go("-0 t6"), 1, 0, "-");

        net = Net.mesh(3, 3, 3, 7).go("t -2 t3");
        Entry.due(net, 0, 2, "2>1@0");
        Entry.due(net, 1, 2, "2>0@0");
    }

    /** "instead of the distance of a BAD entry it tells GONE": SUSPECT ones are told with their distance. */
    private static void goneForBadOnesAlone() {
        Net net = Net.mesh(4, 5, 10, 12).go("t -0 t");
        Entry.due(net, 2, 0, "1S>0@2");
        Entry.due(net.go("t"), 1, 0, "2>2@3");
        Entry.due(net.go("t"), 2, 0, "1B>0@2");
        Entry.due(net, 1, 0, "2>2@3");
        Entry.due(net.go("t"), 1, 0, "2B>2@3");
    }

    /** "What is told is as the tables are before the tick.": news goes one router a tick. */
    private static void newsGoOneRouterATick() {
        Net net = Net.mesh(5, 3, 6, 12, 24);
        int[] pairs = {8, 14, 18, 20, 20};
        for (int tick = 0; tick < pairs.length; tick++) {
            Check.due("tick " + (tick + 1), pairs[tick], net.tick());
            for (int k = 2; k < 5; k++) {
                Entry.due(net, 0, k, tick >= k - 2 ? k - 1 + ">1@1" : "-");
            }
            for (int k = 2; k >= 0; k--) {
                Entry.due(net, 3, k, tick >= 2 - k ? 3 - k + ">2@3" : "-");
            }
        }
    }

    /** The same: in tick 4 the entries of both routers become BAD, but they still tell one another the distance 1. */
    private static void toldAsBeforeTheAgeing() {
        Net net = Net.mesh(3, 3, 6, 6).go("t -0 t2");
        Entry.due(net, 1, 0, "1S>0@1");
        Entry.due(net, 2, 0, "1S>0@1");
        net.go("t");
        Entry.due(net, 1, 0, "2>2@2");
        Entry.due(net, 2, 0, "2>1@2");
    }

    /** "AGEING, if the tick's number is even": GOOD, SUSPECT, BAD, removed, and nothing of it in an odd tick. */
    private static void inEvenTicks() {
        String[] due = {"1>1@1", "1S>1@1", "1S>1@1", "1B>1@1", "1B>1@1", "-", "-"};
        Net net = Net.mesh(3, 3, 6).go("t -1");
        for (int tick = 2; tick <= 7; tick++) {
            Entry.due(net.go("t"), 0, 2, due[tick - 1]);
        }
        net = Net.mesh(3, 3, 6).go("t2 -1");
        for (int tick = 3; tick <= 9; tick++) {
            Entry.due(net.go("t"), 0, 2, due[tick - 3]);
        }
    }

    /** "every entry that is not an own one": own ones do not age. */
    private static void ownEntriesDoNotAge() {
        Net net = Net.mesh(3, 3, 6).go("-1");
        for (int tick = 1; tick <= 8; tick++) {
            Entry.table(net.go("t"), 0, "0@0 0@1 -");
        }
    }

    /** "each step for everything before the next step": an entry that ages and is told again in one tick is GOOD. */
    private static void ageingBeforeTaking() {
        Net net = Net.mesh(3, 3, 6);
        for (int tick = 1; tick <= 8; tick++) {
            Entry.due(net.go("t"), 0, 2, "1>1@1");
            Entry.due(net, 1, 0, "1>0@1");
        }
    }

    public static void main(String[] args) {
        pairsOfOneRouter();
        onlyThoseThatAreOnTell();
        countedOnEachPort();
        agedEntriesAreTold();
        notOnTheEntrysOwnPort();
        goneForBadOnesAlone();
        newsGoOneRouterATick();
        toldAsBeforeTheAgeing();
        inEvenTicks();
        ownEntriesDoNotAge();
        ageingBeforeTaking();
        Check.end();
    }
}
