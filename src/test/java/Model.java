import java.util.ArrayList;
import java.util.Comparator;
import java.util.List;
import java.util.Locale;
import java.util.Map;
import java.util.TreeMap;
import java.util.TreeSet;
import java.util.regex.Matcher;
import java.util.regex.Pattern;

/** The document once more, by other means (maps, records and regular expressions), for ModelTest to compare with. */
final class Model {
    enum Health { GOOD, SUSPECT, BAD }

    record Way(int distance, Integer next, int port, Health health, boolean known) {
        Way health(Health other) {
            return new Way(distance, next, port, other, known);
        }
    }

    /** A distance of null says GONE. */
    record Pair(int teller, int port, int network, Integer distance) {
    }

    record Job(int session, int number) {
    }

    record Done(int answer, int time) {
    }

    static final class Router {
        final TreeSet<Integer> ports = new TreeSet<>();
        boolean on = true;
        TreeMap<Integer, Way> table = new TreeMap<>();

        void restart() {
            table = new TreeMap<>();
            if (on) {
                ports.forEach(p -> table.put(p, new Way(0, null, p, Health.GOOD, true)));
            }
        }
    }

    static final class Service {
        int address;
        String object;
        String type;
        boolean dropped;
        final int[] records = new int[4];
        int count;
        final Map<Job, Done> list = new TreeMap<>(
                Comparator.comparingInt(Job::session).thenComparingInt(Job::number));
    }

    static final class Session {
        int client;
        Service service;
        boolean closed;
        int silence;
        int commands;
        String state = "none";
        int key;
        int value;
        TreeSet<Integer> missing = new TreeSet<>();
        int tried;
        int latestTry;
        Integer reply;
    }

    private static final Pattern NAMES = Pattern.compile("([^:@=~*]+):([^:@=~*]+)");
    private static final String MASK = "([^:@=~*]+|=|[^:@=~*]*~[^:@=~*]*)";
    private static final Pattern PATTERN = Pattern.compile(MASK + ":" + MASK + "@([^:@=~*]+|\\*)");

    private final int interval;
    private final int tries;
    private final int release;
    private String text = "";
    private final List<String> zones = new ArrayList<>();
    private final TreeSet<Integer> nodes = new TreeSet<>();
    private final List<Router> routers = new ArrayList<>();
    private final List<Service> services = new ArrayList<>();
    private final List<Session> sessions = new ArrayList<>();
    private List<Integer> latestFound = List.of();
    private final List<Boolean> losses = new ArrayList<>();
    private int packets;
    private int now;
    /** How often the rarer things came about, so that ModelTest can tell that its runs reach them. */
    final Map<String, Integer> seen = new TreeMap<>();

    Model(int interval, int tries, int release) {
        this.interval = 1 + Math.floorMod(interval, 4);
        this.tries = 1 + Math.floorMod(tries, 4);
        this.release = 1 + Math.floorMod(release, 16);
    }

    private void saw(String what) {
        seen.merge(what, 1, Integer::sum);
    }

    boolean write(char c) {
        boolean fine = c >= ' ' && c <= '~' && text.length() < 32;
        if (fine) {
            text += c;
        }
        return fine;
    }

    private String take() {
        String taken = text;
        text = "";
        return taken;
    }

    private static String small(String s) {
        return s.toLowerCase(Locale.ROOT);
    }

    int network() {
        String zone = take();
        if (!zone.matches("[^:@=~*]+") || zones.size() == 8) {
            return -1;
        }
        zones.add(zone);
        return zones.size() - 1;
    }

    int router(int mask) {
        Router router = new Router();
        for (int k = 0; k < 32; k++) {
            if ((mask & 1 << k) != 0) {
                router.ports.add(k);
            }
        }
        int ports = router.ports.size();
        if (ports < 2 || ports > 4 || router.ports.last() >= zones.size() || routers.size() == 6) {
            return -1;
        }
        router.restart();
        routers.add(router);
        return routers.size() - 1;
    }

    boolean power(int router, boolean on) {
        if (router < 0 || router >= routers.size() || routers.get(router).on == on) {
            return false;
        }
        routers.get(router).on = on;
        routers.get(router).restart();
        return true;
    }

    int node(int network, int wish) {
        if (network < 0 || network >= zones.size() || wish < 1 || wish > 6) {
            return -1;
        }
        int identity = wish;
        for (int i = 0; i < 6; i++) {
            if (nodes.add(8 * network + identity)) {
                return 8 * network + identity;
            }
            identity = identity == 6 ? 1 : identity + 1;
        }
        return -1;
    }

    private static boolean fits(String mask, String name) {
        if (mask.equals("=")) {
            return true;
        }
        StringBuilder regex = new StringBuilder();
        for (char c : small(mask).toCharArray()) {
            regex.append(c == '~' ? ".*" : Pattern.quote(String.valueOf(c)));
        }
        return small(name).matches(regex.toString());
    }

    private List<Integer> looking(int n, String first, String second, String zone) {
        String asked = small(zone.equals("*") ? zones.get(n) : zone);
        TreeMap<Integer, List<Integer>> byHops = new TreeMap<>();
        for (int s = 0; s < services.size(); s++) {
            Service service = services.get(s);
            int t = service.address / 8;
            if (!service.dropped && small(zones.get(t)).equals(asked) && lookedAt(n, t)
                    && fits(first, service.object) && fits(second, service.type)) {
                byHops.computeIfAbsent(hops(n, t), h -> new ArrayList<>()).add(s);
            }
        }
        List<Integer> all = new ArrayList<>();
        byHops.values().forEach(all::addAll);
        if (byHops.size() > 1) {
            saw("found at different hops");
        }
        return all;
    }

    private boolean lookedAt(int n, int t) {
        if (t == n) {
            return true;
        }
        Router first = firstRouter(n);
        if (first == null || !first.table.containsKey(t)) {
            return false;
        }
        if (!first.table.get(t).known) {
            saw("zone not known when looked for");
            return false;
        }
        if (hops(n, t) >= 0 && hops(t, n) < 0) {
            saw("looked for with no way back");
        }
        return hops(n, t) >= 0 && hops(t, n) >= 0;
    }

    int name(int address) {
        Matcher m = NAMES.matcher(take());
        if (!nodes.contains(address)) {
            return -1;
        }
        if (!m.matches()) {
            return -2;
        }
        if (!looking(address / 8, m.group(1), m.group(2), "*").isEmpty()) {
            return -3;
        }
        if (services.size() == 16) {
            return -4;
        }
        Service service = new Service();
        service.address = address;
        service.object = m.group(1);
        service.type = m.group(2);
        services.add(service);
        return services.size() - 1;
    }

    boolean drop(int service) {
        if (service < 0 || service >= services.size() || services.get(service).dropped) {
            return false;
        }
        services.get(service).dropped = true;
        return true;
    }

    int lookup(int address) {
        Matcher m = PATTERN.matcher(take());
        if (!nodes.contains(address)) {
            return -1;
        }
        if (!m.matches()) {
            return -2;
        }
        latestFound = looking(address / 8, m.group(1), m.group(2), m.group(3));
        return latestFound.size();
    }

    int found(int k) {
        return k < 0 || k >= latestFound.size() ? -1 : latestFound.get(k);
    }

    int tick() {
        now++;
        List<Pair> told = telling();
        if (now % 2 == 0) {
            routers.forEach(this::ageing);
        }
        for (int r = 0; r < routers.size(); r++) {
            taking(r, told);
        }
        zones();
        for (Service service : services) {
            if (service.list.values().removeIf(d -> now - d.time >= release)) {
                saw(service.dropped ? "released after drop" : "released");
            }
        }
        sessions.forEach(this::silence);
        for (int s = 0; s < sessions.size(); s++) {
            tryingAgain(s);
        }
        return told.size();
    }

    private List<Pair> telling() {
        List<Pair> told = new ArrayList<>();
        for (int s = 0; s < routers.size(); s++) {
            for (int p : routers.get(s).ports) {
                for (Map.Entry<Integer, Way> e : routers.get(s).table.entrySet()) {
                    Way way = e.getValue();
                    if (way.port != p) {
                        told.add(new Pair(s, p, e.getKey(), way.health == Health.BAD ? null : (Integer) way.distance));
                    }
                }
            }
        }
        return told;
    }

    private void ageing(Router router) {
        TreeMap<Integer, Way> older = new TreeMap<>();
        router.table.forEach((network, way) -> {
            if (way.next == null) {
                older.put(network, way);
            } else if (way.health == Health.GOOD) {
                older.put(network, way.health(Health.SUSPECT));
            } else if (way.health == Health.SUSPECT) {
                older.put(network, way.health(Health.BAD));
            } else {
                saw("aged away");
            }
        });
        router.table = older;
    }

    private void taking(int r, List<Pair> told) {
        Router router = routers.get(r);
        if (!router.on) {
            return;
        }
        for (Pair pair : told) {
            if (pair.teller != r && router.ports.contains(pair.port)) {
                Way old = router.table.get(pair.network);
                if (old == null || old.next != null) {
                    takeOne(router, old, pair);
                }
            }
        }
    }

    private void takeOne(Router router, Way old, Pair pair) {
        boolean its = old != null && old.next == pair.teller && old.port == pair.port;
        if (pair.distance == null) {
            if (its) {
                saw("gone");
                router.table.put(pair.network, old.health(Health.BAD));
            }
        } else if (pair.distance == 15) {
            saw("distance 15 told");
            if (its) {
                saw("distance 15 told by the next router");
                router.table.remove(pair.network);
            }
        } else if (old == null || old.health == Health.BAD || old.distance >= pair.distance + 1 || its) {
            if (its && old.distance < pair.distance + 1 && old.health != Health.BAD) {
                saw("farther by the same way");
            }
            router.table.put(pair.network, new Way(pair.distance + 1, pair.teller, pair.port, Health.GOOD,
                    old != null && old.known));
        }
    }

    private void zones() {
        List<Runnable> changes = new ArrayList<>();
        for (Router router : routers) {
            router.table.forEach((network, way) -> {
                if (!way.known) {
                    Way other = routers.get(way.next).table.get(network);
                    if (other != null && other.known) {
                        changes.add(() -> router.table.put(network,
                                new Way(way.distance, way.next, way.port, way.health, true)));
                    } else {
                        saw("zone not learnt");
                    }
                }
            });
        }
        changes.forEach(Runnable::run);
    }

    private void silence(Session session) {
        if (session.closed) {
            return;
        }
        int a = session.client;
        int b = session.service.address / 8;
        session.silence = hops(a, b) >= 0 && hops(b, a) >= 0 ? 0 : session.silence + 1;
        if (session.silence == 5) {
            saw("closed when " + session.state);
            session.closed = true;
            if (session.state.equals("under way")) {
                session.state = "failed";
            }
        }
    }

    private void tryingAgain(int s) {
        Session session = sessions.get(s);
        if (session.state.equals("under way") && session.latestTry + interval == now) {
            if (session.tried == tries) {
                saw("failed after all tries");
                session.state = "failed";
            } else {
                saw("tried again");
                attempt(s);
            }
        }
    }

    private boolean sent(int from, int to) {
        packets++;
        boolean lost = !losses.isEmpty() && losses.remove(0);
        return !lost && hops(from, to) >= 0;
    }

    private void attempt(int s) {
        Session session = sessions.get(s);
        Service service = session.service;
        int there = service.address / 8;
        session.tried++;
        session.latestTry = now;
        if (!sent(session.client, there) || service.dropped) {
            return;
        }
        Job job = new Job(s, session.commands - 1);
        Done done = service.list.get(job);
        if (done == null) {
            if (service.list.size() == 8) {
                saw("list full");
                return;
            }
            int record = session.key % 4;
            done = new Done(service.records[record], now);
            if (session.key > 3) {
                service.records[record] = session.value;
            }
            service.count++;
        } else {
            saw("listed already");
        }
        service.list.put(job, new Done(done.answer, now));
        for (int part : session.missing.toArray(new Integer[0])) {
            if (sent(there, session.client)) {
                session.missing.remove(part);
            }
        }
        if (session.missing.isEmpty()) {
            session.state = "done";
            session.reply = done.answer;
            if (sent(session.client, there)) {
                service.list.remove(job);
            } else {
                saw("release lost");
            }
        }
    }

    int route(int router, int network) {
        if (router < 0 || router >= routers.size() || !routers.get(router).table.containsKey(network)) {
            return -1;
        }
        Way way = routers.get(router).table.get(network);
        return way.distance + (way.health == Health.SUSPECT ? 16 : 0) + (way.health == Health.BAD ? 32 : 0)
                + (way.known ? 64 : 0) + (way.next == null ? 0 : 128 * (1 + way.next)) + 1024 * way.port;
    }

    private Router firstRouter(int network) {
        return routers.stream().filter(r -> r.on && r.ports.contains(network)).findFirst().orElse(null);
    }

    int hops(int a, int b) {
        if (a < 0 || b < 0 || a >= zones.size() || b >= zones.size()) {
            return -1;
        }
        if (a == b) {
            return 0;
        }
        Router at = firstRouter(a);
        int count = 0;
        while (at != null) {
            count++;
            if (count == 16) {
                saw("16 hops");
                return -1;
            }
            Way way = at.table.get(b);
            if (way == null || way.health == Health.BAD) {
                return -1;
            }
            if (way.distance == 0) {
                return count;
            }
            at = routers.get(way.next);
        }
        return -1;
    }

    int open(int address, int service) {
        if (!nodes.contains(address) || service < 0 || service >= services.size()
                || services.get(service).dropped) {
            return -1;
        }
        int a = address / 8;
        int b = services.get(service).address / 8;
        if (hops(a, b) < 0 || hops(b, a) < 0) {
            return -2;
        }
        if (sessions.size() == 12) {
            return -3;
        }
        Session session = new Session();
        session.client = a;
        session.service = services.get(service);
        sessions.add(session);
        return sessions.size() - 1;
    }

    private Session at(int session) {
        return session < 0 || session >= sessions.size() ? null : sessions.get(session);
    }

    int command(int session, int key, int value, int parts) {
        Session s = at(session);
        if (s == null || s.closed) {
            return -1;
        }
        if (s.state.equals("under way")) {
            return -2;
        }
        if (key < 0 || key > 7 || parts < 1 || parts > 8) {
            return -3;
        }
        s.commands++;
        s.state = "under way";
        s.key = key;
        s.value = value;
        s.tried = 0;
        s.missing = new TreeSet<>();
        for (int part = 0; part < parts; part++) {
            s.missing.add(part);
        }
        attempt(session);
        return s.commands - 1;
    }

    int status(int session) {
        Session s = at(session);
        return s == null ? -1 : List.of("none", "under way", "done", "failed").indexOf(s.state) + (s.closed ? 4 : 0);
    }

    int reply(int session) {
        Session s = at(session);
        return s == null || s.reply == null ? 0 : s.reply;
    }

    int missing(int session) {
        Session s = at(session);
        return s == null ? -1 : s.missing.stream().mapToInt(k -> 1 << k).sum();
    }

    int ledger(int service, int key) {
        if (service < 0 || service >= services.size() || key < 0 || key > 5) {
            return 0;
        }
        Service s = services.get(service);
        return key < 4 ? s.records[key] : key == 4 ? s.count : s.list.size();
    }

    void faults(int bits) {
        losses.clear();
        for (int k = 0; k < 32; k++) {
            losses.add((bits & 1 << k) != 0);
        }
    }

    int packets() {
        return packets;
    }
}
