/** The LIST of a service and RELEASE, promise 19. */
public final class ListTest {
    /** Commands whose releases are lost, so that their entries stay. */
    private static void fill(Net net, int entries) {
        for (int i = 0; i < entries; i++) {
            net.faults(4);
            Check.due("command " + i, i, net.command(0, 4, i + 1, 1));
            Check.due("status: only the release is lost", 2, net.status(0));
            Check.due("entries", i + 1, net.ledger(0, 5));
        }
        net.faults(0);
    }

    /** "if the list has 8 entries, that is all": the eighth is still carried out, the ninth not. */
    private static void eightEntries() {
        Net net = Net.session(0, 3, 15);
        fill(net, 7);
        Check.due("the eighth", 7, net.again().command(0, 4, 9, 1));
        net = Net.session(0, 3, 15);
        fill(net, 8);
        int sent = net.packets();
        Check.due("the ninth", 8, net.command(0, 4, 9, 2));
        Check.due("status of the ninth", 1, net.status(0));
        Check.due("packets: the request alone", sent + 1, net.packets());
        Check.due("missing", 3, net.missing(0));
        Check.due("record", 8, net.ledger(0, 0));
        Check.due("commands done", 8, net.ledger(0, 4));
        Check.due("entries", 8, net.ledger(0, 5));
    }

    /** Each service has a list of its own. */
    private static void listsOfTwoServices() {
        Net net = Net.session(0, 3, 15);
        Check.due("another service", 1, net.name(9, "u:v"));
        Check.due("a session to it", 1, net.open(1, 1));
        fill(net, 8);
        Check.due("a command to it", 0, net.command(1, 4, 9, 1));
        Check.due("its status", 2, net.status(1));
        Check.due("ledger(1, 4)", 1, net.ledger(1, 4));
        Check.due("ledger(0, 4)", 8, net.ledger(0, 4));
    }

    /** "If the service's list has an entry with this session and number, this is the entry.": on a full list too. */
    private static void listedOnAFullList() {
        Net net = Net.session(0, 3, 15);
        Check.due("open(1, 0)", 1, net.open(1, 0));
        fill(net, 7);
        net.faults(2);
        Check.due("the eighth", 0, net.command(1, 4, 9, 1));
        Check.due("entries", 8, net.ledger(0, 5));
        Check.due("status of the eighth", 2, net.go("t").status(1));
        Check.due("reply to it", 7, net.reply(1));
        Check.due("entries when it is released", 7, net.ledger(0, 5));
        Check.due("carried out once", 8, net.ledger(0, 4));
    }

    /** "with this session": another session's command of the same number is another one. */
    private static void theSameNumberOfTwoSessions() {
        Net net = Net.session(0, 3, 15);
        Check.due("open(9, 0)", 1, net.open(9, 0));
        net.faults(2);
        net.command(0, 4, 1, 1);
        net.faults(2);
        net.command(1, 4, 2, 1);
        Check.due("two entries", 2, net.ledger(0, 5));
        Check.due("two carried out", 2, net.ledger(0, 4));
        net.go("t");
        Check.due("reply(0)", 0, net.reply(0));
        Check.due("reply(1)", 1, net.reply(1));
        Check.due("two carried out still", 2, net.ledger(0, 4));
        Check.due("no entries", 0, net.ledger(0, 5));
    }

    /** "and number": the same session's next command is another one, though the first is still on the list. */
    private static void twoNumbersOfOneSession() {
        Net net = Net.session(0, 3, 15);
        fill(net, 1);
        net.faults(2);
        Check.due("the next command", 1, net.command(0, 4, 2, 1));
        Check.due("two entries", 2, net.ledger(0, 5));
        Check.due("status", 2, net.go("t").status(0));
        Check.due("reply", 1, net.reply(0));
        Check.due("two carried out", 2, net.ledger(0, 4));
        Check.due("the first is still there", 1, net.ledger(0, 5));
    }

    /** "a release is sent to the service; if it arrives, the entry is taken off the list": else it stays. */
    private static void releaseSent() {
        Net net = Net.session(0, 3, 15);
        net.command(0, 4, 1, 1);
        Check.due("entries when it arrives", 0, net.ledger(0, 5));
        Check.due("packets", 3, net.packets());
        net.faults(4);
        net.command(0, 4, 2, 1);
        Check.due("entries when it is lost", 1, net.ledger(0, 5));
        Check.due("packets", 6, net.packets());
        Check.due("status", 2, net.status(0));
        Check.due("packets later: it is not sent again", 6, net.go("t3").packets());
    }

    /** "entries whose time is RELEASE ticks or more ago are taken off their lists": not a tick before. */
    private static void released() {
        for (int release = 1; release <= 16; release++) {
            for (int before = 0; before < 2; before++) {
                Net net = Net.session(0, 3, release - 1);
                net.ticks(before);
                fill(net, 2);
                net.ticks(release - 1);
                Check.due("entries a tick before, release " + release, 2, net.ledger(0, 5));
                net.tick();
                Check.due("entries, release " + release, 0, net.ledger(0, 5));
            }
        }
    }

    /** Entries of different times go one after the other. */
    private static void eachInItsTime() {
        Net net = Net.session(0, 3, 2);
        fill(net, 1);
        net.go("t");
        net.faults(4);
        net.command(0, 4, 2, 1);
        Check.due("entries", 2, net.ledger(0, 5));
        Check.due("entries a tick later", 2, net.go("t").ledger(0, 5));
        Check.due("entries two ticks later", 1, net.go("t").ledger(0, 5));
        Check.due("entries three ticks later", 0, net.go("t").ledger(0, 5));
    }

    /** "The entry's time becomes NOW.": at each try that finds it. */
    private static void aTryRenewsTheTime() {
        Net net = Net.session(1, 3, 2);
        net.faults(2);
        net.command(0, 4, 5, 1);
        net.go("t");
        net.faults(2);
        net.go("t2");
        Check.due("the entry after three ticks", 1, net.ledger(0, 5));
        Check.due("status after the third try", 2, net.go("t").status(0));
        Check.due("carried out once", 1, net.ledger(0, 4));
        Check.due("reply", 0, net.reply(0));
    }

    /** The same: a request that does not arrive does not renew it. */
    private static void aLostRequestDoesNotRenewTheTime() {
        Net net = Net.session(1, 3, 2);
        net.faults(2);
        net.command(0, 4, 5, 1);
        net.faults(1);
        net.go("t2");
        Check.due("two tries", 3, net.packets());
        Check.due("the entry after two ticks", 1, net.ledger(0, 5));
        Check.due("the entry after three ticks", 0, net.go("t").ledger(0, 5));
    }

    /** Step 5 comes before step 7: the entry is released in the tick of the second try, which carries it out anew. */
    private static void releasedBeforeItIsTriedAgain() {
        Net net = Net.session(1, 3, 1);
        net.command(0, 5, 100, 1);
        net.faults(4);
        net.command(0, 5, 200, 2);
        Check.due("missing", 2, net.missing(0));
        Check.due("status", 2, net.go("t2").status(0));
        Check.due("reply is the second entry's", 200, net.reply(0));
        Check.due("commands done", 3, net.ledger(0, 4));
    }

    /** The same with RELEASE greater by one: the entry is still there. */
    private static void notReleasedBeforeItIsTriedAgain() {
        Net net = Net.session(1, 3, 2);
        net.command(0, 5, 100, 1);
        net.faults(4);
        net.command(0, 5, 200, 2);
        Check.due("status", 2, net.go("t2").status(0));
        Check.due("reply is the first entry's", 100, net.reply(0));
        Check.due("commands done", 2, net.ledger(0, 4));
    }

    /** The same for a full list: room that is made in a tick is there for the tries of that tick. */
    private static void roomForTheSameTick() {
        Net net = Net.session(1, 3, 1);
        fill(net, 8);
        Check.due("the ninth", 8, net.command(0, 4, 9, 1));
        Check.due("status", 1, net.go("t").status(0));
        Check.due("entries", 8, net.ledger(0, 5));
        Check.due("status", 2, net.go("t").status(0));
        Check.due("record", 9, net.ledger(0, 0));
        Check.due("reply", 8, net.reply(0));
        Check.due("entries", 0, net.ledger(0, 5));
    }

    /** "its records, count and list stay, and the list is still seen to by the ticks" */
    private static void listOfADroppedService() {
        Net net = Net.session(0, 1, 3);
        fill(net, 3);
        net.drop(0);
        Check.due("record", 3, net.ledger(0, 0));
        Check.due("commands done", 3, net.ledger(0, 4));
        Check.due("entries", 3, net.ledger(0, 5));
        Check.due("entries after three ticks", 3, net.go("t3").ledger(0, 5));
        Check.due("entries after four ticks", 0, net.go("t").ledger(0, 5));
        Check.due("record", 3, net.ledger(0, 0));
        Check.due("commands done", 3, net.ledger(0, 4));
    }

    /** "Key 0 .. 3: that record of a service; 4: how many commands it has done; 5: how many entries are on its list." */
    private static void keys() {
        Net net = Net.session(0, 3, 15);
        for (int record = 0; record < 4; record++) {
            net.command(0, 4 + record, 70 + record, 1);
        }
        net.faults(4);
        net.command(0, 0, 0, 1);
        int[] due = {70, 71, 72, 73, 5, 1};
        for (int key = 0; key < 6; key++) {
            Check.due("ledger(0, " + key + ")", due[key], net.ledger(0, key));
        }
        for (int key : Check.outside(6)) {
            Check.due("ledger(0, " + key + ")", 0, net.ledger(0, key));
        }
    }

    /** "0 if there is no such service (one that was dropped still counts)" */
    private static void noSuchService() {
        Net net = Net.session(0, 3, 15);
        fill(net, 1);
        for (int service : Check.outside(1)) {
            for (int key = 0; key < 6; key++) {
                Check.due("ledger(" + service + ", " + key + ")", 0, net.ledger(service, key));
            }
        }
        net.drop(0);
        Check.due("ledger(0, 0) of a dropped one", 1, net.ledger(0, 0));
    }

    /** Of sixteen services the last is there too. */
    private static void theSixteenth() {
        Net net = Net.oneNode();
        for (int i = 0; i < 16; i++) {
            net.name(1, (char) ('a' + i) + ":t");
        }
        Check.due("open(1, 15)", 0, net.open(1, 15));
        net.command(0, 7, 6, 1);
        Check.due("ledger(15, 3)", 6, net.ledger(15, 3));
        Check.due("ledger(15, 4)", 1, net.ledger(15, 4));
        Check.due("ledger(16, 3)", 0, net.ledger(16, 3));
        Check.due("ledger(14, 3)", 0, net.ledger(14, 3));
    }

    /** "four RECORDS 0 .. 3 (ints, 0 at first)" */
    private static void emptyAtFirst() {
        Net net = Net.pair(0, 0, 0);
        for (int key = 0; key < 6; key++) {
            Check.due("ledger(0, " + key + ")", 0, net.ledger(0, key));
        }
    }

    public static void main(String[] args) {
        eightEntries();
        listsOfTwoServices();
        listedOnAFullList();
        theSameNumberOfTwoSessions();
        twoNumbersOfOneSession();
        releaseSent();
        released();
        eachInItsTime();
        aTryRenewsTheTime();
        aLostRequestDoesNotRenewTheTime();
        releasedBeforeItIsTriedAgain();
        notReleasedBeforeItIsTriedAgain();
        roomForTheSameTick();
        listOfADroppedService();
        keys();
        noSuchService();
        theSixteenth();
        emptyAtFirst();
        Check.end();
    }
}
