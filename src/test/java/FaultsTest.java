/** Promises 20 and 21: which packets are lost, and how many were sent. */
public final class FaultsTest {
    private static void theThirtySecondPacket() {
        ZoneNet net = Check.session(0, 3, 15);
        net.faults(1 << 31);
        for (int i = 0; i < 10; i++) {
            net.command(0, 0, 0, 1);
            Check.due("status of command " + i, 2, net.status(0));
            Check.due("packets", 3 * (i + 1), net.packets());
        }
        net.command(0, 0, 0, 1);
        Check.due("status with the 32nd lost", 1, net.status(0));
        Check.due("packets", 32, net.packets());
        net.tick();
        Check.due("status with the 33rd not lost", 2, net.status(0));
        Check.due("packets", 35, net.packets());
    }

    private static void allThirtyTwo() {
        ZoneNet net = Check.session(0, 3, 15);
        net.faults(-1);
        for (int i = 0; i < 8; i++) {
            net.command(0, 0, 0, 1);
            Check.ticks(net, 4);
            Check.due("status of command " + i, 3, net.status(0));
            Check.due("packets", 4 * (i + 1), net.packets());
        }
        net.command(0, 0, 0, 1);
        Check.due("status behind the 32", 2, net.status(0));
    }

    private static void newFaultsForOld() {
        ZoneNet net = Check.session(0, 3, 15);
        net.faults(-1);
        net.faults(0);
        net.command(0, 0, 0, 1);
        Check.due("status when no faults are said", 2, net.status(0));
        net.faults(2);
        net.command(0, 0, 0, 1);
        Check.due("status when the part is lost", 1, net.status(0));
        net.faults(1);
        net.tick();
        Check.due("the request alone is sent and lost", 6, net.packets());
        net.tick();
        Check.due("status after the third try", 2, net.status(0));
    }

    /** Each single bit loses just the packet of its number. */
    private static void eachBit() {
        for (int bit = 0; bit < 10; bit++) {
            ZoneNet net = Check.session(0, 3, 15);
            net.faults(1 << bit);
            net.command(0, 4, 1, 8);
            int missing = bit == 0 ? 255 : bit == 9 ? 0 : 1 << (bit - 1);
            Check.due("missing with bit " + bit, missing, net.missing(0));
            Check.due("status with bit " + bit, bit == 9 ? 2 : 1, net.status(0));
            Check.due("entries with bit " + bit, bit == 0 ? 0 : 1, net.ledger(0, 5));
            Check.due("packets with bit " + bit, bit == 0 ? 1 : bit == 9 ? 10 : 9, net.packets());
        }
    }

    private static void packetsWithNoWayCountToo() {
        ZoneNet net = Check.session(0, 3, 15);
        net.power(0, false);
        net.faults(1);
        net.command(0, 0, 0, 1);
        Check.due("packets with no way", 1, net.packets());
        Check.due("status with no way", 1, net.status(0));
        net.power(0, true);
        net.tick();
        Check.due("status when the way is there", 2, net.status(0));
        Check.due("packets", 4, net.packets());
    }

    private static void onlyCommandsSendPackets() {
        ZoneNet net = Check.session(0, 3, 15);
        net.faults(1);
        Check.ticks(net, 3);
        Check.lookup(net, 1, "=:=@b");
        net.hops(0, 1);
        net.open(1, 0);
        Check.due("packets without a command", 0, net.packets());
        net.command(0, 0, 0, 1);
        Check.due("status: the fault was not used up", 1, net.status(0));
    }

    public static void main(String[] args) {
        theThirtySecondPacket();
        allThirtyTwo();
        newFaultsForOld();
        eachBit();
        packetsWithNoWayCountToo();
        onlyCommandsSendPackets();
        Check.end();
    }
}
