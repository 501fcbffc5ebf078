/** Steps 3 and 4 of a tick: what a pair that is told does to an entry, and how zones become known. */
public final class TakingTest {
    /** "Each router r that is on takes the pairs" */
    private static void onlyThoseThatAreOnTake() {
        Net net = Net.mesh(3, 3, 6).go("-0 t3");
        Entry.table(net, 0, "- - -");
        Entry.table(net.go("+0 t"), 0, "0@0 0@1 1>1@1");
    }

    /** "told by each other router s": not its own ones, which it tells on a port that it has. */
    private static void ofOtherRouters() {
        Net net = Net.mesh(3, 6, 3).go("t -1 t3");
        Entry.due(net, 0, 0, "1B>1@1");
    }

    /** "on each port p that r has too": pairs told on other ports, and by routers elsewhere, are not taken. */
    private static void onPortsThatItHasToo() {
        Net net = Net.mesh(4, 3, 13).go("t");
        Entry.table(net, 0, "0@0 0@1 1>1@0 1>1@0");
        Entry.table(Net.mesh(4, 3, 12).go("t4"), 0, "0@0 0@1 - -");
    }

    /** "in the order of s": of two at the same distance the later one is taken last. */
    private static void inTheOrderOfS() {
        Net net = Net.mesh(3, 5, 3, 7).go("t");
        Entry.due(net, 0, 1, "1>2@2");
        Entry.due(net, 1, 2, "1>2@1");
        Entry.due(Net.mesh(3, 3, 6, 6).go("t3"), 0, 2, "1>2@1");
    }

    /** "then of p" */
    private static void thenOfP() {
        Entry.due(Net.mesh(3, 7, 3).go("t"), 1, 2, "1>0@1");
        Entry.due(Net.mesh(4, 14, 7).go("t"), 1, 3, "1>0@2");
    }

    /** "r's entry is an own one: nothing." */
    private static void anOwnEntry() {
        Net net = Net.mesh(3, 7, 7, 3).go("t5");
        Entry.table(net, 0, "0@0 0@1 0@2");
        Entry.table(net, 1, "0@0 0@1 0@2");
        Entry.due(net, 2, 0, "0@0");
    }

    /** "GONE: if there is an entry with next s and port p, it becomes BAD (nothing else of it changes)" */
    private static void gone() {
        Net net = Net.mesh(4, 5, 10, 12).go("t -0 t3");
        Entry.due(net, 1, 0, "2>2@3");
        Entry.due(net.go("t"), 1, 0, "2B>2@3");
    }

    /** "else nothing": there is no entry. */
    private static void goneWithNoEntry() {
        Net net = Net.mesh(4, 3, 6, 12).go("t4 -2 t4");
        Entry.due(net, 1, 3, "1B>2@2");
        Entry.due(net.go("-0 +0 t"), 0, 3, "-");
        Entry.due(net, 1, 3, "1B>2@2");
    }

    /** "else nothing": the port is the same, the next router is another. */
    private static void goneByAnotherRouter() {
        Net net = Net.mesh(4, 13, 12, 6).go("t -0 t3");
        Entry.due(net, 1, 0, "1B>0@3");
        Entry.due(net.go("+0 t"), 2, 0, "1>0@2");
    }

    /** "else nothing": the next router is the same, the port is another. */
    private static void goneOnAnotherPort() {
        Net net = Net.mesh(6, 34, 38, 25, 17, 35, 36).go("-0 t4 -2 t2 +0 -5 t4 +5 t4");
        Entry.due(net, 4, 3, "7B>1@5");
        Entry.due(net, 0, 3, "7S>4@5");
        Entry.due(net.go("t"), 0, 3, "7S>4@5");
    }

    /** Two routers that share two networks count the way to network 3 up, as nobody is there any more. */
    private static Net countedUp(int ticks) {
        return Net.mesh(4, 9, 7, 6).go("t -0 t" + ticks);
    }

    /** "A distance d from 0 to 14": 14 is taken, and the entry's distance is 15. */
    private static void fourteen() {
        Net net = countedUp(14);
        Entry.due(net, 2, 3, "14>1@2");
        Entry.due(net, 1, 3, "13>2@1");
        Entry.due(net.go("t"), 1, 3, "15>2@1");
    }

    /** "The distance 15: if there is an entry with next s and port p, it is removed" */
    private static void fifteen() {
        Net net = countedUp(15);
        Entry.due(net, 2, 3, "14>1@2");
        Entry.due(net.go("t"), 2, 3, "-");
        Entry.due(net, 1, 3, "15>2@1");
    }

    /** "else nothing": there is no entry. */
    private static void fifteenWithNoEntry() {
        Net net = countedUp(16);
        Entry.due(net, 1, 3, "15>2@1");
        Entry.due(net, 2, 3, "-");
        Entry.due(net.go("t"), 2, 3, "-");
        Entry.due(net, 1, 3, "15S>2@1");
    }

    /** "else nothing": the port is the same, the next router is another, of which the entry was just taken. */
    private static void fifteenByAnotherRouter() {
        Net net = Net.mesh(4, 3, 14, 11).go("t2 -1 t17 +1");
        Entry.due(net, 2, 2, "15>0@0");
        Entry.due(net, 0, 2, "15>2@1");
        Entry.due(net.go("t"), 0, 2, "1>1@1");
    }

    /** "else nothing": the next router is the same, the port is another. */
    private static void fifteenOnAnotherPort() {
        Net net = Net.mesh(5, 11, 9, 6, 19).go("-3 t -2 t14 +3 t2");
        Entry.due(net, 3, 2, "15?>1@0");
        Entry.due(net, 0, 2, "15>3@0");
        Entry.due(net.go("t"), 0, 2, "15S>3@0");
    }

    /** "if there is no entry": for the distances 0 and 1. */
    private static void taken() {
        Net net = Net.mesh(4, 3, 6, 12);
        Entry.due(net, 0, 2, "-");
        Entry.due(net.go("t"), 0, 2, "1>1@1");
        Entry.due(net, 0, 3, "-");
        Entry.due(net.go("t"), 0, 3, "2>1@1");
    }

    /** "or it is BAD": what is farther is taken, but not for a SUSPECT one. */
    private static void forABadOne() {
        Net net = Net.mesh(3, 3, 6, 6).go("t -0 t2");
        Entry.due(net, 1, 0, "1S>0@1");
        Entry.due(net.go("t"), 1, 0, "2>2@2");
    }

    /** "or its distance is at least d + 1": nearer by one, the same, and farther by one. */
    private static void atLeastDAndOne() {
        Net net = Net.mesh(4, 3, 6, 12, 9).go("-3 t3");
        Entry.due(net, 0, 3, "2>1@1");
        Entry.due(net.go("+3 t"), 0, 3, "1>3@0");

        net = Net.mesh(3, 3, 6, 6).go("-2 t");
        Entry.due(net, 0, 2, "1>1@1");
        Entry.due(net.go("+2 t"), 0, 2, "1>2@1");

        net = Net.mesh(3, 6, 7, 6).go("t2");
        Entry.due(net, 0, 0, "1>1@2");
        Entry.due(net, 2, 0, "1>1@2");
    }

    /** "or it has next s and port p": then what is farther is taken too. */
    private static void fartherByTheSameWay() {
        Net net = Net.mesh(4, 5, 13, 14).go("t -2 t3");
        Entry.due(net, 0, 1, "2>1@2");
        Entry.due(net, 1, 1, "2>0@0");
        net.go("t");
        Entry.due(net, 0, 1, "3>1@2");
        Entry.due(net, 1, 1, "3>0@0");
    }

    /** "Else nothing.": farther, and of next s and port p just one is the same. */
    private static void fartherByHalfTheSameWay() {
        Net net = Net.mesh(3, 3, 5, 5).go("t -0 t3");
        Entry.due(net, 1, 1, "2>2@2");
        Entry.due(net.go("t"), 1, 1, "2>2@2");

        net = Net.mesh(4, 11, 3, 5).go("t2");
        Entry.due(net, 2, 3, "1>0@0");
    }

    /** "then the entry is now: .. GOOD": a SUSPECT one is so again when its way is told. */
    private static void goodAgain() {
        Net net = Net.mesh(3, 6, 3).go("t -1 t");
        Entry.due(net, 0, 0, "1S>1@1");
        Entry.due(net.go("+1 t"), 0, 0, "1>1@1");
        net.go("-1 t3");
        Entry.due(net, 0, 0, "1B>1@1");
        Entry.due(net.go("+1 t"), 0, 0, "1>1@1");
    }

    /** "the zone is known if there was an entry with the zone known": of a GOOD one and of a BAD one. */
    private static void zoneKnownAsBefore() {
        Entry.due(Net.mesh(4, 10, 5, 11).go("t2"), 0, 2, "2>2@3");
        Net net = Net.mesh(3, 3, 6, 6).go("t -0 t3");
        Entry.due(net, 1, 0, "2>2@2");
        Entry.due(net, 2, 0, "2>1@2");
    }

    /** The same: with no entry before it is not known, and stays so while the next router does not know it. */
    private static void zoneNotKnown() {
        Net net = Net.mesh(4, 12, 3, 7, 3).go("t -0 t -3 t14 +3");
        Entry.due(net, 1, 3, "14>2@1");
        Entry.due(net, 3, 3, "-");
        Entry.due(net.go("t"), 3, 3, "15?>1@0");
        Entry.due(net, 1, 3, "-");
        Entry.due(net.go("t"), 3, 3, "15S?>1@0");
    }

    /** "if its next router has an entry for the same network with the zone known": in the same tick, SUSPECT or not. */
    private static void zoneOfTheNextRouter() {
        Entry.due(Net.mesh(3, 6, 3).go("t"), 0, 0, "1>1@1");
        Net net = Net.mesh(4, 6, 5, 9).go("t -0 t");
        Entry.due(net, 1, 1, "1S>0@2");
        Entry.due(net, 2, 1, "2>1@0");
    }

    /** "all entries at once, by what was known before this step": router 2 asks router 1, which has it known now. */
    private static void zonesAtOnce() {
        Net net = Net.mesh(5, 13, 7, 9, 22).go("t -3 t -1 t8 -0 t +0 t6 +1 t2 -0 t2 +3");
        Entry.due(net, 1, 4, "15S?>2@0");
        Entry.due(net, 2, 4, "15S?>1@0");
        net.go("t");
        Entry.due(net, 1, 4, "1>3@2");
        Entry.due(net, 2, 4, "15B?>1@0");
        Entry.due(net.go("t"), 2, 4, "2>1@0");
    }

    /** The same where the router that is asked has the greater number. */
    private static void zonesAtOnceTheOtherWayRound() {
        Net net = Net.mesh(6, 18, 24, 19, 7, 34, 49)
                .go("-5 t -1 t3 -4 t2 -3 +3 t4 +5 t -2 t5 +2 t6 -0 +4 t");
        Entry.due(net, 5, 3, "-");
        Entry.due(net, 4, 3, "14?>5@5");
        net.go("t");
        Entry.due(net, 5, 3, "15>3@0");
        Entry.due(net, 4, 3, "14S?>5@5");
    }

    public static void main(String[] args) {
        onlyThoseThatAreOnTake();
        ofOtherRouters();
        onPortsThatItHasToo();
        inTheOrderOfS();
        thenOfP();
        anOwnEntry();
        gone();
        goneWithNoEntry();
        goneByAnotherRouter();
        goneOnAnotherPort();
        fourteen();
        fifteen();
        fifteenWithNoEntry();
        fifteenByAnotherRouter();
        fifteenOnAnotherPort();
        taken();
        forABadOne();
        atLeastDAndOne();
        fartherByTheSameWay();
        fartherByHalfTheSameWay();
        goodAgain();
        zoneKnownAsBefore();
        zoneNotKnown();
        zoneOfTheNextRouter();
        zonesAtOnce();
        zonesAtOnceTheOtherWayRound();
        Check.end();
    }
}
