/** PACKETS and FAULTS, promises 20 and 21. */
public final class FaultsTest {
    /** "the first is lost if bit 0 of bits is set, the second if bit 1 is, and so on": each bit loses just its packet. */
    private static void eachBit() {
        for (int bit = 0; bit < 10; bit++) {
            Net net = Net.session(0, 3, 15);
            net.faults(1 << bit);
            net.command(0, 4, 1, 8);
            int missing = bit == 0 ? 255 : bit == 9 ? 0 : 1 << (bit - 1);
            Check.due("missing with bit " + bit, missing, net.missing(0));
            Check.due("status with bit " + bit, bit == 9 ? 2 : 1, net.status(0));
            Check.due("entries with bit " + bit, bit == 0 ? 0 : 1, net.ledger(0, 5));
            Check.due("packets with bit " + bit, bit == 0 ? 1 : bit == 9 ? 10 : 9, net.packets());
        }
    }

    /** The same for all 32 bits, by commands on one network that send three packets each. */
    private static void everyBit() {
        for (int bit = 0; bit < 32; bit++) {
            Net net = Net.oneNode();
            Check.due("service", 0, net.name(1, "s:t"));
            Check.due("session", 0, net.open(1, 0));
            net.faults(1 << bit);
            for (int i = 0; i < bit / 3; i++) {
                net.command(0, 0, 0, 1);
                Check.due("status before bit " + bit, 2, net.status(0));
                Check.due("entries before bit " + bit, 0, net.ledger(0, 5));
            }
            net.command(0, 0, 0, 1);
            Check.due("status with bit " + bit, bit % 3 == 2 ? 2 : 1, net.status(0));
            Check.due("entries with bit " + bit, bit % 3 == 0 ? 0 : 1, net.ledger(0, 5));
        }
    }

    /** "and so on to bit 31; those behind are not lost" */
    private static void theThirtySecond() {
        Net net = Net.session(0, 3, 15);
        net.faults(1 << 31);
        for (int i = 0; i < 10; i++) {
            net.command(0, 0, 0, 1);
            Check.due("status of command " + i, 2, net.status(0));
            Check.due("packets", 3 * (i + 1), net.packets());
        }
        net.command(0, 0, 0, 1);
        Check.due("packets", 32, net.packets());
        Check.due("status with the 32nd lost", 1, net.status(0));
        net.tick();
        Check.due("packets", 35, net.packets());
        Check.due("status with the 33rd not lost", 2, net.status(0));
    }

    /** The same with all bits set: 32 are lost, the 33rd is not. */
    private static void allThirtyTwo() {
        Net net = Net.session(0, 3, 15);
        net.faults(-1);
        for (int i = 0; i < 8; i++) {
            net.command(0, 0, 0, 1);
            net.ticks(4);
            Check.due("status of command " + i, 3, net.status(0));
            Check.due("packets", 4 * (i + 1), net.packets());
        }
        net.command(0, 0, 0, 1);
        Check.due("status behind the 32", 2, net.status(0));
    }

    /** "(What was said before is said no more": with fewer bits, and with none. */
    private static void saidNoMore() {
        Net net = Net.session(0, 3, 15);
        net.faults(-1);
        net.faults(0);
        net.command(0, 0, 0, 1);
        Check.due("status when no faults are said", 2, net.status(0));
        net.faults(6);
        net.faults(8);
        net.command(0, 0, 0, 1);
        Check.due("status with other faults", 2, net.status(0));
        net.command(0, 0, 0, 1);
        Check.due("status with the fourth lost", 1, net.status(0));
    }

    /** "packets sent before do not count.)": the first is the next one that is sent. */
    private static void fromNowOn() {
        Net net = Net.session(0, 3, 15);
        for (int i = 0; i < 13; i++) {
            net.command(0, 0, 0, 1);
        }
        net.faults(1);
        net.command(0, 4, 5, 1);
        Check.due("packets", 40, net.packets());
        Check.due("status with the first lost", 1, net.status(0));
        net.faults(2);
        net.tick();
        Check.due("packets", 42, net.packets());
        Check.due("status with the second lost", 1, net.status(0));
        Check.due("entries", 1, net.ledger(0, 5));
    }

    /** "every packet sent counts, whether there is a way or not": for the faults, and for packets. */
    private static void withNoWay() {
        Net net = Net.session(0, 3, 15).go("-0");
        net.faults(1);
        net.command(0, 0, 0, 1);
        Check.due("packets with no way", 1, net.packets());
        Check.due("status with no way", 1, net.status(0));
        net.go("+0 t");
        Check.due("status when the way is there", 2, net.status(0));
        Check.due("packets", 4, net.packets());
    }

    /** The same: a packet with no way uses up the bit that would have spared it. */
    private static void withNoWayAndABitBehind() {
        Net net = Net.session(0, 3, 15).go("-0");
        net.faults(2);
        net.command(0, 0, 0, 1);
        net.go("+0 t");
        Check.due("packets", 2, net.packets());
        Check.due("status with the second lost", 1, net.status(0));
        Check.due("status after the third", 2, net.go("t").status(0));
    }

    /** "arrives if it is not lost and there is a way": on one network there always is. */
    private static void onOneNetwork() {
        Net net = Net.oneNode();
        Check.due("service", 0, net.name(1, "s:t"));
        Check.due("session", 0, net.open(1, 0));
        net.command(0, 0, 0, 8);
        Check.due("status", 2, net.status(0));
        Check.due("packets", 10, net.packets());
    }

    /** "How many packets were sent.": requests, parts and releases, lost or not, and nothing else. */
    private static void packets() {
        Net net = Net.session(0, 3, 15);
        net.faults(1);
        net.go("t3");
        net.lookup(1, "=:=@b");
        net.hops(0, 1);
        net.open(1, 0);
        Check.due("packets without a command", 0, net.packets());
        net.command(0, 0, 0, 2);
        Check.due("the fault was not used up", 1, net.status(0));
        Check.due("a lost request", 1, net.packets());
        net.faults(2);
        net.tick();
        Check.due("a request and two parts, one of them lost", 4, net.packets());
        net.faults(4);
        net.tick();
        Check.due("a request, a part and a lost release", 7, net.packets());
        net.go("t5");
        Check.due("nothing more", 7, net.packets());
    }

    public static void main(String[] args) {
        eachBit();
        everyBit();
        theThirtySecond();
        allThirtyTwo();
        saidNoMore();
        fromNowOn();
        withNoWay();
        withNoWayAndABitBehind();
        onOneNetwork();
        packets();
        Check.end();
    }
}
