import java.util.ArrayList;
import java.util.List;
import java.util.Map;
import java.util.Random;
import java.util.TreeMap;

/** Long random runs, the same each time, on a ZoneNet and on the Model: every answer must be the same. */
public final class ModelTest {
    private static final int RUNS = 30000;
    /** No change, with the texts and the questions that go with it, needs more calls. */
    private static final int CALLS_OF_A_CHANGE = 64;
    private static final String[] NAMES = {"a", "A", "b", "ab", "aB", "aba", "B b", "z"};
    private static final String[] MASKS = {"=", "~", "a~", "~b", "a~a", "A~b", "ab~ba", "~~", "=a", "", "*"};
    private static final int[] STRANGE = {-1, 8, 16, 63, 64, 1 << 30, Integer.MIN_VALUE, Integer.MAX_VALUE};

    private static final String[] RARE = {"16 hops", "aged away", "closed when done", "closed when failed",
        "closed when none", "closed when under way", "distance 15 told", "distance 15 told by the next router",
        "failed after all tries", "farther by the same way", "found at different hops", "gone", "list full",
        "listed already", "looked for with no way back", "release lost", "released", "released after drop",
        "tried again", "zone not known when looked for", "zone not learnt"};

    private final Random random;
    private final ZoneNet net;
    private final Model model;
    private final int run;
    private final boolean hostile;
    /** All sessions go to one service, whose list fills up. */
    private final boolean crowded;
    /** Little but ticks and routers turned off and on, so that ways are counted up to the end. */
    private final boolean restless;
    private int calls = 0;
    private final List<Integer> nodes = new ArrayList<>();
    private int networks = 0;
    private int services = 0;
    private int sessions = 0;

    private ModelTest(int run) {
        this.run = run;
        random = new Random(run);
        hostile = run % 8 == 0;
        crowded = run % 8 == 1;
        restless = run % 8 >= 6;
        int interval = random.nextInt();
        int tries = random.nextInt();
        int release = crowded || random.nextInt(3) == 0 ? random.nextInt() : random.nextInt(4);
        net = new ZoneNet(interval, tries, release);
        model = new Model(interval, tries, release);
    }

    private void same(String call, long want, long got) {
        calls++;
        if (want != got) {
            Check.due("run " + run + ", call " + calls + ": " + call, want, got);
        }
    }

    private void type(String text) {
        for (char c : text.toCharArray()) {
            same("write", model.write(c) ? 1 : 0, net.write(c) ? 1 : 0);
        }
    }

    private int below(int bound) {
        return random.nextInt(hostile ? 10 : 200) == 0 ? STRANGE[random.nextInt(STRANGE.length)] : random.nextInt(bound);
    }

    private String pick(String[] texts) {
        return texts[random.nextInt(texts.length)];
    }

    private String mask() {
        return random.nextInt(3) == 0 ? pick(NAMES) : MASKS[random.nextInt(random.nextInt(8) == 0 ? MASKS.length : 7)];
    }

    /** One of those that are there or, seldom, the next one. */
    private int among(int count) {
        return below(Math.max(1, random.nextInt(20) == 0 ? count + 1 : count));
    }

    private int service() {
        return crowded ? below(1) : among(services);
    }

    private int address() {
        return nodes.isEmpty() || random.nextInt(20) == 0 ? below(64) : nodes.get(random.nextInt(nodes.size()));
    }

    private void makeNetwork() {
        type(random.nextInt(20) == 0 ? "a:b" : random.nextInt(3) == 0 ? pick(NAMES) : "a");
        int made = model.network();
        same("network", made, net.network());
        networks = Math.max(networks, made + 1);
    }

    private void makeRouter() {
        int mask = 0;
        int ports = random.nextInt(12) == 0 ? 1 + random.nextInt(5) : 2 + random.nextInt(2);
        for (int i = 0; i < ports; i++) {
            mask |= 1 << among(networks);
        }
        same("router " + mask, model.router(mask), net.router(mask));
    }

    private void makeNode() {
        int network = among(networks);
        int wish = random.nextInt(12) == 0 ? below(9) : 1 + random.nextInt(3);
        int made = model.node(network, wish);
        same("node", made, net.node(network, wish));
        if (made >= 0) {
            nodes.add(made);
        }
    }

    private void makeService() {
        type(random.nextInt(20) == 0 ? mask() + ":" + mask() : pick(NAMES) + ":" + pick(NAMES));
        int address = address();
        int made = model.name(address);
        same("name", made, net.name(address));
        services = Math.max(services, made + 1);
    }

    private void lookUp() {
        type(mask() + ":" + mask() + "@" + (random.nextBoolean() ? "*" : random.nextInt(9) == 0 ? mask() : pick(NAMES)));
        lookUpFrom(address());
    }

    private void lookUpFrom(int address) {
        int count = model.lookup(address);
        same("lookup", count, net.lookup(address));
        for (int k = -1; k <= count; k++) {
            same("found", model.found(k), net.found(k));
        }
    }

    /** Zones stay unknown for a tick or two and seldom: where it is so, one looks from everywhere. */
    private void lookWhereZonesAreUnknown() {
        for (int router = 0; router < 6; router++) {
            for (int network = 0; network < 8; network++) {
                int entry = model.route(router, network);
                if (entry >= 0 && (entry & 64) == 0) {
                    for (int from = 0; from < 8 && hasRoom(); from++) {
                        type("=:=@a");
                        lookUpFrom(8 * from + 1);
                    }
                }
            }
        }
    }

    private void openSession() {
        int address = address();
        int service = service();
        int opened = model.open(address, service);
        same("open", opened, net.open(address, service));
        sessions = Math.max(sessions, opened + 1);
    }

    private void giveCommand() {
        int session = among(sessions);
        int key = random.nextInt(20) == 0 ? below(9) : random.nextInt(8);
        int parts = random.nextInt(20) == 0 ? below(10) : 1 + random.nextInt(8);
        int value = random.nextInt();
        same("command", model.command(session, key, value, parts), net.command(session, key, value, parts));
    }

    private void setFaults() {
        int bits = switch (random.nextInt(4)) {
            case 0 -> random.nextInt();
            case 1 -> -1;
            case 2 -> random.nextInt() & random.nextInt();
            default -> 0;
        };
        model.faults(bits);
        net.faults(bits);
        calls++;
    }

    private void turn() {
        int router = below(6);
        boolean on = random.nextInt(3) != 0;
        same("power", model.power(router, on) ? 1 : 0, net.power(router, on) ? 1 : 0);
    }

    private void change() {
        int kind = random.nextInt(100);
        if (crowded && random.nextBoolean()) {
            kind = 70 + random.nextInt(28);
        } else if (restless && random.nextInt(8) != 0) {
            kind = 19 + random.nextInt(51);
        }
        if (kind < 3) {
            makeNetwork();
        } else if (kind < 5) {
            makeRouter();
        } else if (kind < 9) {
            makeNode();
        } else if (kind < 13) {
            makeService();
        } else if (kind < 14) {
            int service = below(16);
            same("drop", model.drop(service) ? 1 : 0, net.drop(service) ? 1 : 0);
        } else if (kind < 19) {
            lookUp();
        } else if (kind < 60) {
            same("tick", model.tick(), net.tick());
            lookWhereZonesAreUnknown();
        } else if (kind < 70) {
            turn();
        } else if (kind < 77) {
            openSession();
        } else if (kind < 95) {
            giveCommand();
        } else if (kind < 98) {
            setFaults();
        } else {
            char c = (char) (random.nextInt(4) == 0 ? random.nextInt(300) : 'a');
            same("write", model.write(c) ? 1 : 0, net.write(c) ? 1 : 0);
        }
    }

    private void ask() {
        int kind = random.nextInt(20);
        if (kind < 7) {
            int router = below(6);
            int network = among(networks);
            same("route(" + router + ", " + network + ")", model.route(router, network), net.route(router, network));
        } else if (kind < 10) {
            int a = among(networks);
            int b = among(networks);
            same("hops(" + a + ", " + b + ")", model.hops(a, b), net.hops(a, b));
        } else if (kind < 15) {
            askOfASession(among(sessions), kind - 10);
        } else if (kind < 19) {
            int service = service();
            int key = below(6);
            same("ledger(" + service + ", " + key + ")", model.ledger(service, key), net.ledger(service, key));
        } else {
            same("packets", model.packets(), net.packets());
        }
    }

    private void askOfASession(int session, int kind) {
        if (kind < 2) {
            same("status(" + session + ")", model.status(session), net.status(session));
        } else if (kind < 4) {
            same("missing(" + session + ")", model.missing(session), net.missing(session));
        } else {
            same("reply(" + session + ")", model.reply(session), net.reply(session));
        }
    }

    private boolean hasRoom() {
        return calls + CALLS_OF_A_CHANGE <= Net.MOST_CALLS;
    }

    private void go(Map<String, Integer> seen) {
        for (int i = 0; i < 3 + random.nextInt(4); i++) {
            makeNetwork();
            makeNode();
        }
        for (int i = 0; i < 3 + random.nextInt(4); i++) {
            makeRouter();
        }
        for (int i = 0; i < 3; i++) {
            makeService();
        }
        while (hasRoom()) {
            change();
            ask();
        }
        while (calls < Net.MOST_CALLS) {
            ask();
        }
        model.seen.forEach((what, count) -> seen.merge(what, count, Integer::sum));
    }

    public static void main(String[] args) {
        Map<String, Integer> seen = new TreeMap<>();
        for (int run = 0; run < RUNS; run++) {
            new ModelTest(run).go(seen);
            Check.due("run " + run, true, true);
        }
        for (String what : RARE) {
            Check.due("the runs reach: " + what, true, seen.containsKey(what));
        }
        Check.end();
    }
}
