import java.util.ArrayList;
import java.util.List;

/** A ZoneNet that remembers its calls, so that it can be made once more, and that is asked no more than it promises. */
final class Net {
    /** One call; a boolean answer counts 1 or 0. */
    interface Call {
        long on(ZoneNet net);
    }

    /** The document promises nothing of an object after its 512th call. */
    static final int MOST_CALLS = 512;

    private final int interval;
    private final int tries;
    private final int release;
    private final ZoneNet net;
    private final List<Call> calls = new ArrayList<>();

    Net(int interval, int tries, int release) {
        this.interval = interval;
        this.tries = tries;
        this.release = release;
        net = new ZoneNet(interval, tries, release);
    }

    Net() {
        this(0, 0, 0);
    }

    private long answer(Call call) {
        if (calls.size() == MOST_CALLS) {
            throw new IllegalStateException("a test asks for more than " + MOST_CALLS + " calls");
        }
        calls.add(call);
        return call.on(net);
    }

    private boolean holds(Call call) {
        return answer(call) == 1;
    }

    private int number(Call call) {
        return (int) answer(call);
    }

    /** Another one that was given the same calls. */
    Net again() {
        Net twin = new Net(interval, tries, release);
        calls.forEach(twin::answer);
        return twin;
    }

    int calls() {
        return calls.size();
    }

    boolean write(char c) {
        return holds(n -> n.write(c) ? 1 : 0);
    }

    int network() {
        return number(ZoneNet::network);
    }

    int router(int mask) {
        return number(n -> n.router(mask));
    }

    boolean power(int router, boolean on) {
        return holds(n -> n.power(router, on) ? 1 : 0);
    }

    int node(int network, int wish) {
        return number(n -> n.node(network, wish));
    }

    int name(int address) {
        return number(n -> n.name(address));
    }

    boolean drop(int service) {
        return holds(n -> n.drop(service) ? 1 : 0);
    }

    int lookup(int address) {
        return number(n -> n.lookup(address));
    }

    int found(int k) {
        return number(n -> n.found(k));
    }

    int tick() {
        return number(ZoneNet::tick);
    }

    int route(int router, int network) {
        return number(n -> n.route(router, network));
    }

    int hops(int a, int b) {
        return number(n -> n.hops(a, b));
    }

    int open(int address, int service) {
        return number(n -> n.open(address, service));
    }

    int command(int session, int key, int value, int parts) {
        return number(n -> n.command(session, key, value, parts));
    }

    int status(int session) {
        return number(n -> n.status(session));
    }

    int reply(int session) {
        return number(n -> n.reply(session));
    }

    int missing(int session) {
        return number(n -> n.missing(session));
    }

    int ledger(int service, int key) {
        return number(n -> n.ledger(service, key));
    }

    void faults(int bits) {
        answer(n -> {
            n.faults(bits);
            return 0;
        });
    }

    int packets() {
        return number(ZoneNet::packets);
    }

    /** Writes a text that has room. */
    Net type(String text) {
        for (char c : text.toCharArray()) {
            Check.due("write of '" + c + "' in " + text, true, write(c));
        }
        return this;
    }

    int network(String zone) {
        return type(zone).network();
    }

    int name(int address, String names) {
        return type(names).name(address);
    }

    int lookup(int address, String pattern) {
        return type(pattern).lookup(address);
    }

    void ticks(int count) {
        for (int i = 0; i < count; i++) {
            tick();
        }
    }

    /** What happens to the routers, in words: -2 turns router 2 off, +2 on, t is a tick, t5 are five. */
    Net go(String words) {
        for (String word : words.split(" ")) {
            char first = word.charAt(0);
            int number = word.length() == 1 ? 1 : Integer.parseInt(word.substring(1));
            if (first == 't') {
                ticks(number);
            } else {
                Check.due("power " + word + " in " + words, true, power(number, first == '+'));
            }
        }
        return this;
    }

    /** Makes networks of these zones, the first ones of all. */
    Net zones(String... zones) {
        for (int i = 0; i < zones.length; i++) {
            Check.due("network " + zones[i], i, network(zones[i]));
        }
        return this;
    }

    /** Makes routers with these masks, the first ones of all. */
    Net routers(int... masks) {
        for (int i = 0; i < masks.length; i++) {
            Check.due("router(" + masks[i] + ")", i, router(masks[i]));
        }
        return this;
    }

    /** Makes the nodes with these addresses. */
    Net nodes(int... addresses) {
        for (int address : addresses) {
            Check.due("node at " + address, address, node(address / 8, address % 8));
        }
        return this;
    }

    /** Networks in zones of their own, a, b, .., and routers with these masks. */
    static Net mesh(int networks, int... masks) {
        Net net = new Net();
        for (int i = 0; i < networks; i++) {
            Check.due("network " + i, i, net.network(String.valueOf((char) ('a' + i))));
        }
        return net.routers(masks);
    }

    /** Two networks a and b behind one router, a node 1 and a node 9, and the service s:t at 9. */
    static Net pair(int interval, int tries, int release) {
        Net net = new Net(interval, tries, release).zones("a", "b").routers(3).nodes(1, 9);
        Check.due("name(9)", 0, net.name(9, "s:t"));
        return net;
    }

    /** The same with session 0 from node 1 to the service. */
    static Net session(int interval, int tries, int release) {
        Net net = pair(interval, tries, release);
        Check.due("open(1, 0)", 0, net.open(1, 0));
        return net;
    }

    /** One network in the zone z with the node 1. */
    static Net oneNode() {
        return new Net().zones("z").nodes(1);
    }
}
