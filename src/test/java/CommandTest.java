/** Promises 15, 17, 18 and 19: commands, tries, answers, parts that are missing, and the services' ledgers. */
public final class CommandTest {
    private static void refused() {
        ZoneNet net = Check.session(3, 3, 15);
        int[] sessions = {-1, 1, 12, Integer.MIN_VALUE, Integer.MAX_VALUE};
        for (int session : sessions) {
            Check.due("command(" + session + ", ..)", -1, net.command(session, 0, 0, 1));
            Check.due("command(" + session + ", ..) with a wrong key", -1, net.command(session, 8, 0, 1));
        }
        int[] keys = {-1, 8, Integer.MIN_VALUE, Integer.MAX_VALUE};
        for (int key : keys) {
            Check.due("command with key " + key, -3, net.command(0, key, 0, 1));
        }
        int[] parts = {0, -1, 9, 32, 33, Integer.MIN_VALUE, Integer.MAX_VALUE};
        for (int p : parts) {
            Check.due("command with parts " + p, -3, net.command(0, 0, 0, p));
        }
        Check.due("status after refusals", 0, net.status(0));
        Check.due("packets after refusals", 0, net.packets());
        net.faults(1);
        Check.due("the first command", 0, net.command(0, 4, 1, 1));
        Check.due("one more while it is under way", -2, net.command(0, 4, 1, 1));
        Check.due("a wrong one while it is under way", -2, net.command(0, 8, 1, 0));
        Check.due("packets", 1, net.packets());
    }

    private static void readingAndWriting() {
        ZoneNet net = Check.session(0, 0, 0);
        int number = 0;
        for (int record = 0; record < 4; record++) {
            Check.due("write", number++, net.command(0, 4 + record, -100 - record, 1));
            Check.due("reply to the first write", 0, net.reply(0));
            Check.due("ledger(0, " + record + ")", -100 - record, net.ledger(0, record));
            Check.due("write again", number++, net.command(0, 4 + record, Integer.MIN_VALUE + record, 8));
            Check.due("reply to the second write", -100 - record, net.reply(0));
            Check.due("read", number++, net.command(0, record, 55, 3));
            Check.due("reply to the read", Integer.MIN_VALUE + record, net.reply(0));
            Check.due("ledger after the read", Integer.MIN_VALUE + record, net.ledger(0, record));
            Check.due("commands done", number, net.ledger(0, 4));
            Check.due("entries", 0, net.ledger(0, 5));
        }
    }

    private static void ledgerOfWhatIsNotThere() {
        ZoneNet net = Check.session(0, 0, 0);
        for (int record = 0; record < 4; record++) {
            net.command(0, 4 + record, 7, 1);
        }
        int[] none = {-1, 6, 7, 8, Integer.MIN_VALUE, Integer.MAX_VALUE};
        for (int key : none) {
            Check.due("ledger(0, " + key + ")", 0, net.ledger(0, key));
        }
        int[] services = {-1, 1, 16, Integer.MIN_VALUE, Integer.MAX_VALUE};
        for (int service : services) {
            Check.due("ledger(" + service + ", 0)", 0, net.ledger(service, 0));
        }
        net.drop(0);
        Check.due("ledger(0, 3) after the drop", 7, net.ledger(0, 3));
        Check.due("ledger(0, 4) after the drop", 4, net.ledger(0, 4));
    }

    private static void missingParts() {
        ZoneNet net = Check.session(0, 3, 15);
        int[] none = {-1, 1, 12, Integer.MIN_VALUE, Integer.MAX_VALUE};
        for (int session : none) {
            Check.due("missing(" + session + ")", -1, net.missing(session));
            Check.due("reply(" + session + ")", 0, net.reply(session));
        }
        Check.due("missing(0) with no command", 0, net.missing(0));
        // The request arrives, and of the parts 0 .. 7 the parts 0, 2 and 7 are lost.
        net.faults(2 | 8 | 256);
        net.command(0, 4, 3, 8);
        Check.due("missing(0)", 1 + 4 + 128, net.missing(0));
        Check.due("packets", 9, net.packets());
        // The second try: the request, part 0, part 2 lost, part 7.
        net.faults(4);
        net.tick();
        Check.due("missing(0) after the second try", 4, net.missing(0));
        Check.due("packets after the second try", 13, net.packets());
        Check.due("status after the second try", 1, net.status(0));
        net.tick();
        Check.due("missing(0) after the third", 0, net.missing(0));
        Check.due("packets after the third", 16, net.packets());
        Check.due("status after the third", 2, net.status(0));
        Check.due("carried out once", 1, net.ledger(0, 4));
        Check.due("released", 0, net.ledger(0, 5));
    }

    private static void allPartsAreMissingAtFirst() {
        for (int parts = 1; parts <= 8; parts++) {
            ZoneNet net = Check.session(0, 0, 0);
            net.faults(1);
            net.command(0, 0, 0, parts);
            Check.due("missing of " + parts, (1 << parts) - 1, net.missing(0));
            net.tick();
            Check.due("status when it has failed", 3, net.status(0));
            Check.due("missing when it has failed", (1 << parts) - 1, net.missing(0));
        }
    }

    private static void replyIsOfTheLatestThatIsDone() {
        ZoneNet net = Check.session(0, 0, 15);
        net.command(0, 4, 11, 1);
        net.command(0, 4, 22, 1);
        Check.due("reply", 11, net.reply(0));
        net.faults(4);
        Check.due("a third command", 2, net.command(0, 4, 33, 2));
        Check.due("its status", 1, net.status(0));
        Check.due("its missing parts", 2, net.missing(0));
        Check.due("reply while it is under way", 11, net.reply(0));
        net.tick();
        Check.due("its status after the tick", 3, net.status(0));
        Check.due("reply when it has failed", 11, net.reply(0));
        Check.due("a fourth command", 3, net.command(0, 0, 0, 1));
        Check.due("reply when that is done", 33, net.reply(0));
    }

    /** The first try's entry is released before the second: the command is carried out anew. */
    private static void answerOfTheEntryThatWasCarriedOutLast() {
        ZoneNet net = Check.session(1, 3, 0);
        net.command(0, 5, 100, 1);
        net.faults(4);
        net.command(0, 5, 200, 2);
        Check.due("missing", 2, net.missing(0));
        Check.ticks(net, 2);
        Check.due("status", 2, net.status(0));
        Check.due("reply", 200, net.reply(0));
        Check.due("commands done", 3, net.ledger(0, 4));
    }

    private static void aTryRenewsTheEntrysTime() {
        ZoneNet net = Check.session(1, 3, 2);
        net.faults(2);
        net.command(0, 4, 5, 1);
        net.tick();
        net.faults(2);
        net.tick();
        net.tick();
        Check.due("the entry after three ticks", 1, net.ledger(0, 5));
        net.tick();
        Check.due("status after the third try", 2, net.status(0));
        Check.due("carried out once", 1, net.ledger(0, 4));
        Check.due("reply", 0, net.reply(0));
    }

    private static void eightEntries() {
        ZoneNet net = Check.session(0, 3, 3);
        for (int i = 0; i < 8; i++) {
            net.faults(4);
            Check.due("command " + i, i, net.command(0, 4, i + 1, 1));
            Check.due("status: only the release is lost", 2, net.status(0));
            Check.due("entries", i + 1, net.ledger(0, 5));
        }
        int sent = net.packets();
        Check.due("a ninth", 8, net.command(0, 4, 9, 1));
        Check.due("status of the ninth", 1, net.status(0));
        Check.due("packets: the request alone", sent + 1, net.packets());
        Check.due("ledger(0, 0)", 8, net.ledger(0, 0));
        Check.due("ledger(0, 4)", 8, net.ledger(0, 4));
        Check.ticks(net, 3);
        Check.due("status after three more tries", 1, net.status(0));
        Check.due("entries", 8, net.ledger(0, 5));
        net.tick();
        Check.due("entries after four ticks", 0, net.ledger(0, 5));
        Check.due("status: tried four times before", 3, net.status(0));
        Check.due("ledger(0, 0) as before", 8, net.ledger(0, 0));
    }

    /** A full list still answers those that are on it. */
    private static void listedOnAFullList() {
        ZoneNet net = Check.session(0, 3, 15);
        net.open(1, 0);
        for (int i = 0; i < 7; i++) {
            net.faults(4);
            net.command(0, 4, i, 1);
        }
        net.faults(2);
        net.command(1, 4, 9, 1);
        Check.due("entries", 8, net.ledger(0, 5));
        net.tick();
        Check.due("status of the eighth", 2, net.status(1));
        Check.due("reply to it", 6, net.reply(1));
        Check.due("entries when it is released", 7, net.ledger(0, 5));
        Check.due("carried out once", 8, net.ledger(0, 4));
    }

    private static void theSameNumbersOfTwoSessions() {
        ZoneNet net = Check.session(0, 3, 15);
        net.open(9, 0);
        net.faults(2);
        net.command(0, 4, 1, 1);
        net.faults(2);
        net.command(1, 4, 2, 1);
        Check.due("two entries", 2, net.ledger(0, 5));
        net.tick();
        Check.due("reply(0)", 0, net.reply(0));
        Check.due("reply(1)", 1, net.reply(1));
        Check.due("two carried out", 2, net.ledger(0, 4));
    }

    private static void aDroppedService() {
        ZoneNet net = Check.session(0, 1, 3);
        net.faults(4);
        net.command(0, 4, 1, 1);
        Check.due("an entry", 1, net.ledger(0, 5));
        net.drop(0);
        Check.due("a command to it", 1, net.command(0, 4, 2, 1));
        Check.due("status", 1, net.status(0));
        Check.due("packets", 4, net.packets());
        net.tick();
        Check.due("packets after the second try", 5, net.packets());
        net.tick();
        Check.due("status after two tries", 3, net.status(0));
        Check.due("ledger(0, 0)", 1, net.ledger(0, 0));
        net.tick();
        Check.due("the list after three ticks", 1, net.ledger(0, 5));
        net.tick();
        Check.due("the list after four ticks", 0, net.ledger(0, 5));
    }

    private static void triesAreCountedForEachCommand() {
        ZoneNet net = Check.session(1, 2, 15);
        for (int i = 0; i < 3; i++) {
            net.faults(-1);
            int sent = net.packets();
            net.command(0, 0, 0, 1);
            Check.ticks(net, 5);
            Check.due("status after five ticks", 1, net.status(0));
            Check.due("three tries", sent + 3, net.packets());
            net.tick();
            Check.due("status after six ticks", 3, net.status(0));
            Check.due("no fourth try", sent + 3, net.packets());
        }
    }

    public static void main(String[] args) {
        refused();
        readingAndWriting();
        ledgerOfWhatIsNotThere();
        missingParts();
        allPartsAreMissingAtFirst();
        replyIsOfTheLatestThatIsDone();
        answerOfTheEntryThatWasCarriedOutLast();
        aTryRenewsTheEntrysTime();
        eightEntries();
        listedOnAFullList();
        theSameNumbersOfTwoSessions();
        aDroppedService();
        triesAreCountedForEachCommand();
        Check.end();
    }
}
