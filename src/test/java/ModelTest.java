import java.util.Map;
import java.util.Random;
import java.util.TreeMap;

/** Long random runs, the same each time, on a ZoneNet and on the Model: every answer must be the same. */
public final class ModelTest {
    private static final int RUNS = 3000;
    private static final int CALLS = 512;
    private static final String[] NAMES = {"a", "A", "b", "ab", "aB", "aba", "B b", "z"};
    private static final String[] MASKS = {"=", "~", "a~", "~b", "a~a", "A~b", "ab~ba", "~~", "=a", "", "*"};
    private static final int[] STRANGE = {-1, 8, 16, 63, 64, 1 << 30, Integer.MIN_VALUE, Integer.MAX_VALUE};

    private static final String[] RARE = {"16 hops", "aged away", "closed when done", "closed when failed",
        "closed when none", "closed when under way", "distance 15 told", "distance 15 told by the next router",
        "failed after all tries", "farther by the same way", "found at different hops", "gone", "list full",
        "listed already", "looked for with no way back", "release lost", "released", "released after drop",
        "tried again", "zone not known when looked for", "zone not learnt"};

    private final Random random;
    private final ZoneNet net;
    private final Model model;
    private final int run;
    private final boolean hostile;
    /** All sessions go to one service, whose list fills up. */
    private final boolean crowded;
    private int calls = 0;

    private ModelTest(int run) {
        this.run = run;
        random = new Random(run);
        hostile = run % 8 == 0;
        crowded = run % 8 == 1;
        int interval = random.nextInt();
        int tries = random.nextInt();
        int release = crowded || random.nextInt(3) == 0 ? random.nextInt() : random.nextInt(4);
        net = new ZoneNet(interval, tries, release);
        model = new Model(interval, tries, release);
    }

    private void same(String call, long want, long got) {
        calls++;
        if (want != got) {
            Check.due("run " + run + ", call " + calls + ": " + call, want, got);
        }
    }

    private void type(String text) {
        for (char c : text.toCharArray()) {
            same("write", model.write(c) ? 1 : 0, net.write(c) ? 1 : 0);
        }
    }

    private int below(int bound) {
        return random.nextInt(hostile ? 10 : 200) == 0 ? STRANGE[random.nextInt(STRANGE.length)] : random.nextInt(bound);
    }

    private String pick(String[] texts) {
        return texts[random.nextInt(texts.length)];
    }

    private String mask() {
        return random.nextInt(3) == 0 ? pick(NAMES) : MASKS[random.nextInt(random.nextInt(8) == 0 ? MASKS.length : 7)];
    }

    private int service() {
        return below(crowded ? 1 : 12);
    }

    private int address() {
        return 8 * random.nextInt(6) + 1 + random.nextInt(3);
    }

    private void makeNetwork() {
        type(random.nextInt(20) == 0 ? "a:b" : random.nextInt(3) == 0 ? pick(NAMES) : "a");
        same("network", model.network(), net.network());
    }

    private void makeRouter() {
        int mask = 0;
        int ports = random.nextInt(12) == 0 ? 1 + random.nextInt(5) : 2 + random.nextInt(2);
        for (int i = 0; i < ports; i++) {
            mask |= 1 << below(6);
        }
        same("router " + mask, model.router(mask), net.router(mask));
    }

    private void makeNode() {
        int network = below(6);
        int wish = random.nextInt(12) == 0 ? below(9) : 1 + random.nextInt(3);
        same("node", model.node(network, wish), net.node(network, wish));
    }

    private void makeService() {
        type(random.nextInt(20) == 0 ? mask() + ":" + mask() : pick(NAMES) + ":" + pick(NAMES));
        int address = random.nextInt(20) == 0 ? below(64) : address();
        same("name", model.name(address), net.name(address));
    }

    private void lookUp() {
        type(mask() + ":" + mask() + "@" + (random.nextBoolean() ? "*" : random.nextInt(9) == 0 ? mask() : pick(NAMES)));
        lookUpFrom(random.nextInt(20) == 0 ? below(64) : address());
    }

    private void lookUpFrom(int address) {
        int count = model.lookup(address);
        same("lookup", count, net.lookup(address));
        for (int k = -1; k <= count; k++) {
            same("found", model.found(k), net.found(k));
        }
    }

    /** Zones stay unknown for a tick or two and seldom: where it is so, one looks from everywhere. */
    private void lookWhereZonesAreUnknown() {
        for (int router = 0; router < 6; router++) {
            for (int network = 0; network < 8; network++) {
                int entry = model.route(router, network);
                if (entry >= 0 && (entry & 64) == 0) {
                    for (int from = 0; from < 8; from++) {
                        type("=:=@a");
                        lookUpFrom(8 * from + 1);
                    }
                }
            }
        }
    }

    private void giveCommand() {
        int session = below(12);
        int key = random.nextInt(20) == 0 ? below(9) : random.nextInt(8);
        int parts = random.nextInt(20) == 0 ? below(10) : 1 + random.nextInt(8);
        int value = random.nextInt();
        same("command", model.command(session, key, value, parts), net.command(session, key, value, parts));
    }

    private void setFaults() {
        int bits = switch (random.nextInt(4)) {
            case 0 -> random.nextInt();
            case 1 -> -1;
            case 2 -> random.nextInt() & random.nextInt();
            default -> 0;
        };
        model.faults(bits);
        net.faults(bits);
    }

    private void turn() {
        int router = below(6);
        boolean on = random.nextInt(3) != 0;
        same("power", model.power(router, on) ? 1 : 0, net.power(router, on) ? 1 : 0);
    }

    private void change() {
        int kind = crowded && random.nextBoolean() ? 70 + random.nextInt(28) : random.nextInt(100);
        if (kind < 3) {
            makeNetwork();
        } else if (kind < 5) {
            makeRouter();
        } else if (kind < 9) {
            makeNode();
        } else if (kind < 13) {
            makeService();
        } else if (kind < 14) {
            int service = below(16);
            same("drop", model.drop(service) ? 1 : 0, net.drop(service) ? 1 : 0);
        } else if (kind < 19) {
            lookUp();
        } else if (kind < 60) {
            same("tick", model.tick(), net.tick());
            lookWhereZonesAreUnknown();
        } else if (kind < 70) {
            turn();
        } else if (kind < 77) {
            int address = address();
            int service = service();
            same("open", model.open(address, service), net.open(address, service));
        } else if (kind < 95) {
            giveCommand();
        } else if (kind < 98) {
            setFaults();
        } else {
            char c = (char) (random.nextInt(4) == 0 ? random.nextInt(300) : 'a');
            same("write", model.write(c) ? 1 : 0, net.write(c) ? 1 : 0);
        }
    }

    private void compareAll() {
        for (int i = -1; i < 9; i++) {
            for (int k = -1; k < 9; k++) {
                same("route(" + i + ", " + k + ")", model.route(i, k), net.route(i, k));
                same("hops(" + i + ", " + k + ")", model.hops(i, k), net.hops(i, k));
            }
        }
        for (int i = -1; i < 17; i++) {
            for (int key = -1; key < 7; key++) {
                same("ledger(" + i + ", " + key + ")", model.ledger(i, key), net.ledger(i, key));
            }
            same("status(" + i + ")", model.status(i), net.status(i));
            same("reply(" + i + ")", model.reply(i), net.reply(i));
            same("missing(" + i + ")", model.missing(i), net.missing(i));
        }
        same("packets", model.packets(), net.packets());
    }

    private void go(Map<String, Integer> seen) {
        for (int i = 0; i < 3 + random.nextInt(4); i++) {
            makeNetwork();
            makeNode();
        }
        for (int i = 0; i < 3 + random.nextInt(4); i++) {
            makeRouter();
        }
        for (int i = 0; i < CALLS && calls < 100 * CALLS; i++) {
            change();
            if (i % 8 == 0) {
                compareAll();
            }
        }
        compareAll();
        model.seen.forEach((what, count) -> seen.merge(what, count, Integer::sum));
    }

    public static void main(String[] args) {
        Map<String, Integer> seen = new TreeMap<>();
        for (int run = 0; run < RUNS; run++) {
            new ModelTest(run).go(seen);
            Check.due("run " + run, true, true);
        }
        for (String what : RARE) {
            Check.due("the runs reach: " + what, true, seen.containsKey(what));
        }
        Check.end();
    }
}
