/** COMMANDS, TRY and TRYING AGAIN, promises 15, 17 and 18. */
public final class CommandTest {
    private static void refused(Net net, int session, int key, int parts, int answer) {
        Refused.is(net, "command(" + session + ", " + key + ", 5, " + parts + ")", answer,
                n -> n.command(session, key, 5, parts));
    }

    /** "-1 if there is no such session" */
    private static void noSuchSession() {
        Net net = Scene.rich();
        for (int session : Check.outside(Scene.SESSIONS)) {
            refused(net, session, 4, 1, -1);
        }
        Check.due("command of the first", 1, net.again().command(0, 4, 5, 1));
        Check.due("command of the last", 0, net.again().command(Scene.SESSIONS - 1, 4, 5, 1));
        Net brim = Scene.brim();
        refused(brim, 12, 4, 1, -1);
        Check.due("command of session 11", 0, brim.command(11, 4, 5, 1));
    }

    /** "or it is closed" */
    private static void closed() {
        refused(Scene.rich(), Scene.CLOSED, 4, 1, -1);
        Net net = Net.session(0, 0, 0).go("-0 t4");
        Check.due("command after four silent ticks", 0, net.again().command(0, 4, 5, 1));
        refused(net.go("t"), 0, 4, 1, -1);
        refused(net.go("+0 t"), 0, 4, 1, -1);
    }

    /** "-2 if its latest command is under way": not when it is done, nor when it has failed. */
    private static void underWay() {
        refused(Scene.rich(), Scene.UNDER_WAY, 4, 1, -2);
        refused(Scene.rich(), Scene.NOT_HEARD, 4, 1, -2);
        Net silent = Net.session(3, 3, 15).go("-0 t3");
        Check.due("command in silence", 0, silent.command(0, 4, 1, 1));
        refused(silent, 0, 4, 1, -2);
        refused(silent.go("t"), 0, 4, 1, -2);
        Net net = Net.session(0, 0, 15);
        net.faults(1);
        Check.due("command", 0, net.command(0, 4, 1, 1));
        refused(net, 0, 4, 1, -2);
        Check.due("another when it has failed", 1, net.go("t").command(0, 4, 2, 1));
        Check.due("another when it is done", 2, net.command(0, 4, 3, 1));
    }

    /** "-3 if key is not 0 .. 7" */
    private static void keys() {
        for (int key : Check.outside(8)) {
            refused(Scene.rich(), 0, key, 1, -3);
        }
        refused(Scene.rich(), Scene.NO_COMMAND, -1, 1, -3);
        refused(Scene.rich(), Scene.NO_COMMAND, 8, 1, -3);
        for (int key = 0; key < 8; key++) {
            Check.due("command with key " + key, 0, Net.session(0, 0, 0).command(0, key, 5, 1));
        }
    }

    /** "or parts is not 1 .. 8" */
    private static void parts() {
        for (int parts : Check.outside(1, 8)) {
            refused(Scene.rich(), 0, 4, parts, -3);
        }
        refused(Scene.rich(), Scene.NO_COMMAND, 4, 0, -3);
        refused(Scene.rich(), Scene.NO_COMMAND, 4, 9, -3);
        refused(Scene.rich(), 0, 4, 32, -3);
        refused(Scene.rich(), 0, 4, 33, -3);
        for (int parts = 1; parts <= 8; parts++) {
            Net net = Net.session(0, 0, 0);
            Check.due("command with parts " + parts, 0, net.command(0, 4, 5, parts));
            Check.due("packets with parts " + parts, 2 + parts, net.packets());
            Check.due("status with parts " + parts, 2, net.status(0));
        }
    }

    /** "COMMANDS of a session are numbered 0, 1, ..": each session's by themselves, and refused ones do not count. */
    private static void numbers() {
        Net net = Net.session(0, 0, 0);
        Check.due("open(1, 0)", 1, net.open(1, 0));
        Check.due("first", 0, net.command(0, 0, 0, 1));
        Check.due("second", 1, net.command(0, 0, 0, 1));
        Check.due("first of the other", 0, net.command(1, 0, 0, 1));
        Check.due("refused", -3, net.command(0, 8, 0, 1));
        Check.due("third", 2, net.command(0, 0, 0, 1));
    }

    /** "0 .. 3 is reading that record, 4 .. 7 writing the value into record key - 4" */
    private static void readingAndWriting() {
        Net net = Net.session(0, 0, 0);
        for (int record = 0; record < 4; record++) {
            net.command(0, 4 + record, 100 + record, 1);
            for (int other = 0; other < 4; other++) {
                Check.due("record " + other, other <= record ? 100 + other : 0, net.ledger(0, other));
            }
        }
        for (int record = 0; record < 4; record++) {
            net.command(0, record, 55, 1);
            Check.due("reply to reading " + record, 100 + record, net.reply(0));
            Check.due("record " + record + " when it was read", 100 + record, net.ledger(0, record));
        }
    }

    /** "(the answer is the record, when writing the one before it)": for the least and the greatest value too. */
    private static void theRecordBefore() {
        Net net = Net.session(0, 0, 0);
        int[] values = {Integer.MIN_VALUE, Integer.MAX_VALUE, -1, 0, 7};
        int before = 0;
        for (int value : values) {
            net.command(0, 7, value, 1);
            Check.due("reply to writing " + value, before, net.reply(0));
            net.command(0, 3, 55, 1);
            Check.due("reply to reading", value, net.reply(0));
            before = value;
        }
    }

    /** "The parts MISSING are all of them at first." */
    private static void allMissingAtFirst() {
        for (int parts = 1; parts <= 8; parts++) {
            Net net = Net.session(0, 0, 0);
            net.faults(1);
            net.command(0, 0, 0, parts);
            Check.due("missing of " + parts, (1 << parts) - 1, net.missing(0));
            Check.due("status when it has failed", 3, net.go("t").status(0));
            Check.due("missing when it has failed", (1 << parts) - 1, net.missing(0));
        }
    }

    /** "If it doesn't arrive .. that is all.": the request is lost, or there is no way for it. */
    private static void noRequest() {
        Net net = Net.session(0, 0, 15);
        net.faults(1);
        net.command(0, 4, 5, 2);
        nothingDone(net);
        net = Net.session(0, 0, 15).go("-0");
        net.command(0, 4, 5, 2);
        nothingDone(net);
    }

    private static void nothingDone(Net net) {
        Check.due("packets", 1, net.packets());
        Check.due("record", 0, net.ledger(0, 0));
        Check.due("commands done", 0, net.ledger(0, 4));
        Check.due("entries", 0, net.ledger(0, 5));
        Check.due("missing", 3, net.missing(0));
        Check.due("status", 1, net.status(0));
    }

    /** "or the service is dropped, that is all." */
    private static void droppedService() {
        Net net = Net.session(0, 1, 15);
        net.drop(0);
        Check.due("command", 0, net.command(0, 4, 5, 2));
        nothingDone(net);
        Check.due("packets after the second try", 2, net.go("t").packets());
        Check.due("status after two tries", 3, net.go("t").status(0));
    }

    /** The same when it is dropped between two tries: the entry that is on the list answers no more. */
    private static void droppedBetweenTries() {
        Net net = Net.session(0, 1, 15);
        net.faults(2);
        net.command(0, 4, 5, 1);
        net.drop(0);
        Check.due("packets after the second try", 3, net.go("t").packets());
        Check.due("missing", 1, net.missing(0));
        Check.due("status", 3, net.go("t").status(0));
        Check.due("entries", 1, net.ledger(0, 5));
    }

    /** "each part that is missing is sent back, the least first; a part that arrives is missing no more" */
    private static void theLeastFirst() {
        Net net = Net.session(0, 3, 15);
        // The request arrives, and of the parts 0 .. 7 the parts 0, 2 and 7 are lost.
        net.faults(2 | 8 | 256);
        net.command(0, 4, 3, 8);
        Check.due("missing", 1 + 4 + 128, net.missing(0));
        Check.due("packets", 9, net.packets());
        // The second try: the request, part 0, part 2 lost, part 7.
        net.faults(4);
        net.tick();
        Check.due("missing after the second try", 4, net.missing(0));
        Check.due("packets after the second try", 13, net.packets());
        Check.due("status after the second try", 1, net.status(0));
        net.tick();
        Check.due("missing after the third", 0, net.missing(0));
        Check.due("packets after the third", 16, net.packets());
        Check.due("status after the third", 2, net.status(0));
        Check.due("carried out once", 1, net.ledger(0, 4));
    }

    /** A part is sent from the service's network to the client's: where no way leads back none arrives. */
    private static void partsWithNoWayBack() {
        Net net = new Net(3, 3, 15).zones("a", "b", "c").routers(3, 5).nodes(1, 17);
        Check.due("service at 1", 0, net.name(1, "s:t"));
        Check.due("open(17, 0)", 0, net.go("t").open(17, 0));
        net.go("-0 +0");
        Check.due("hops(2, 0)", 1, net.hops(2, 0));
        Check.due("hops(0, 2)", -1, net.hops(0, 2));
        net.command(0, 4, 5, 3);
        Check.due("missing", 7, net.missing(0));
        Check.due("packets", 4, net.packets());
        Check.due("carried out", 5, net.ledger(0, 0));
        Check.due("entries", 1, net.ledger(0, 5));
    }

    /** "If now no part is missing, the command is DONE": not while one is. */
    private static void done() {
        for (int parts = 1; parts <= 8; parts++) {
            Net net = Net.session(0, 3, 15);
            net.faults(1 << parts);
            net.command(0, 4, 5, parts);
            Check.due("status with the last part lost", 1, net.status(0));
            Check.due("missing", 1 << parts - 1, net.missing(0));
            Check.due("packets: no release", 1 + parts, net.packets());
            Check.due("status after the second try", 2, net.go("t").status(0));
            Check.due("packets: request, part, release", 4 + parts, net.packets());
        }
    }

    /** "A command is tried when it is given.": in the tick's place too where none was yet. */
    private static void triedWhenGiven() {
        Net net = Net.session(0, 0, 0);
        net.command(0, 4, 5, 1);
        Check.due("status before the first tick", 2, net.status(0));
        Check.due("packets", 3, net.packets());
        Check.due("packets after a tick", 3, net.go("t").packets());
    }

    /** "and the latest try was INTERVAL ticks ago, it is tried again": not a tick before. */
    private static void interval() {
        for (int interval = 1; interval <= 4; interval++) {
            Net net = Net.session(interval - 1, 3, 15);
            net.faults(-1);
            net.go("t");
            net.command(0, 0, 0, 1);
            for (int again = 2; again <= 4; again++) {
                net.ticks(interval - 1);
                Check.due("packets a tick before, interval " + interval, again - 1, net.packets());
                net.tick();
                Check.due("packets, interval " + interval, again, net.packets());
            }
        }
    }

    /** "but if it was tried TRIES times it has failed": INTERVAL ticks after the last try. */
    private static void tries() {
        for (int tries = 1; tries <= 4; tries++) {
            Net net = Net.session(1, tries - 1, 15);
            net.faults(-1);
            net.command(0, 0, 0, 1);
            net.ticks(2 * tries - 1);
            Check.due("status a tick before, tries " + tries, 1, net.status(0));
            Check.due("packets, tries " + tries, tries, net.packets());
            net.tick();
            Check.due("status, tries " + tries, 3, net.status(0));
            Check.due("packets, tries " + tries, tries, net.packets());
            net.ticks(5);
            Check.due("packets for ever, tries " + tries, tries, net.packets());
        }
    }

    /** The last try may still succeed. */
    private static void theLastTry() {
        Net net = Net.session(0, 3, 15);
        net.faults(7);
        net.command(0, 4, 5, 1);
        Check.due("status after the third try", 1, net.go("t2").status(0));
        Check.due("status after the fourth", 2, net.go("t").status(0));
        Check.due("status later", 2, net.go("t3").status(0));
    }

    /** Tries are counted for each command. */
    private static void triesOfEachCommand() {
        Net net = Net.session(1, 2, 15);
        for (int i = 0; i < 3; i++) {
            net.faults(-1);
            int sent = net.packets();
            Check.due("command", i, net.command(0, 0, 0, 1));
            Check.due("status after five ticks", 1, net.go("t5").status(0));
            Check.due("three tries", sent + 3, net.packets());
            Check.due("status after six ticks", 3, net.go("t").status(0));
            Check.due("no fourth try", sent + 3, net.packets());
        }
    }

    /** "for each session in order": the packet that is lost is the first session's. */
    private static void sessionsInOrder() {
        Net net = Net.session(0, 3, 15);
        Check.due("open(9, 0)", 1, net.open(9, 0));
        net.faults(3);
        net.command(1, 4, 11, 1);
        net.command(0, 4, 22, 1);
        net.faults(1);
        net.tick();
        Check.due("status(0)", 1, net.status(0));
        Check.due("status(1)", 2, net.status(1));
        Check.due("record", 11, net.ledger(0, 0));
        net.tick();
        Check.due("reply(0)", 11, net.reply(0));
        Check.due("record", 22, net.ledger(0, 0));
    }

    /** "The answer of the session's latest command that is done" */
    private static void reply() {
        Net net = Net.session(0, 0, 15);
        net.command(0, 4, 11, 1);
        net.command(0, 4, 22, 1);
        Check.due("reply", 11, net.reply(0));
        net.faults(4);
        Check.due("a third command", 2, net.command(0, 4, 33, 2));
        Check.due("a part of it is there", 2, net.missing(0));
        Check.due("reply while it is under way", 11, net.reply(0));
        Check.due("its status after the tick", 3, net.go("t").status(0));
        Check.due("reply when it has failed", 11, net.reply(0));
        Check.due("a fourth command", 3, net.command(0, 0, 0, 1));
        Check.due("reply when that is done", 33, net.reply(0));
    }

    /** "0 if there is none or no such session" */
    private static void noReply() {
        Net net = Net.session(0, 0, 15);
        Check.due("reply with no command", 0, net.reply(0));
        net.command(0, 4, 11, 1);
        net.open(1, 0);
        Check.due("reply of another session", 0, net.reply(1));
        net.faults(2);
        net.command(1, 0, 0, 1);
        Check.due("reply with none done", 0, net.reply(1));
        Check.due("status when it has failed", 3, net.go("t").status(1));
        Check.due("reply with one that has failed", 0, net.reply(1));
        net.command(0, 0, 0, 1);
        net.command(1, 0, 0, 1);
        Check.due("reply(1)", 11, net.reply(1));
        for (int session : Check.outside(2)) {
            Check.due("reply(" + session + ")", 0, net.reply(session));
        }
    }

    /** "The parts missing of the session's latest command .. 0 if there is none; -1 if there is no such session." */
    private static void missing() {
        Net net = Net.session(0, 0, 15);
        Check.due("missing with no command", 0, net.missing(0));
        net.faults(1);
        net.command(0, 0, 0, 8);
        Check.due("missing of eight", 255, net.missing(0));
        net.go("t");
        net.faults(1);
        net.command(0, 0, 0, 1);
        Check.due("missing of the latest", 1, net.missing(0));
        net.go("t");
        net.command(0, 0, 0, 8);
        Check.due("missing of one that is done", 0, net.missing(0));
        for (int session : Check.outside(1)) {
            Check.due("missing(" + session + ")", -1, net.missing(session));
        }
        Net brim = Scene.brim();
        Check.due("missing(11)", 0, brim.missing(11));
        Check.due("missing(12)", -1, brim.missing(12));
    }

    public static void main(String[] args) {
        noSuchSession();
        closed();
        underWay();
        keys();
        parts();
        numbers();
        readingAndWriting();
        theRecordBefore();
        allMissingAtFirst();
        noRequest();
        droppedService();
        droppedBetweenTries();
        theLeastFirst();
        partsWithNoWayBack();
        done();
        triedWhenGiven();
        interval();
        tries();
        theLastTry();
        triesOfEachCommand();
        sessionsInOrder();
        reply();
        noReply();
        missing();
        Check.end();
    }
}
