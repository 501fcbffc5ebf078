/**
 * Networks joined by routers that tell one another the ways, names that are looked for by zones,
 * and commands to small servers that are asked for again until every part of the answer is there.
 */
public final class ZoneNet {
    private static final int NONE = -1;

    private static final int FIRST_CHARACTER = 32;
    private static final int LAST_CHARACTER = 126;
    private static final int MOST_CHARACTERS = 32;
    private static final String SIGNS = ":@=~*";

    private static final int MOST_NETWORKS = 8;
    private static final int MOST_NODES = 6;
    private static final int ADDRESSES = 8;
    private static final int MOST_ROUTERS = 6;
    private static final int LEAST_PORTS = 2;
    private static final int MOST_PORTS = 4;
    private static final int MOST_SERVICES = 16;
    private static final int MOST_LISTED = 8;
    private static final int RECORDS = 4;
    private static final int MOST_SESSIONS = 12;
    private static final int MOST_PARTS = 8;

    private static final int FARTHEST = 15;
    private static final int GONE = 16;
    private static final int MOST_HOPS = 15;
    private static final int SILENCE_LIMIT = 5;

    private static final int GOOD = 0;
    private static final int SUSPECT = 1;
    private static final int BAD = 2;

    private static final int UNDER_WAY = 1;
    private static final int DONE = 2;
    private static final int FAILED = 3;
    private static final int CLOSED = 4;

    private final int interval;
    private final int tries;
    private final int release;
    private final StringBuilder text = new StringBuilder();
    private final Mesh mesh = new Mesh();
    private final Line line = new Line(mesh);
    private final Service[] services = new Service[MOST_SERVICES];
    private int serviceCount;
    private final Session[] sessions = new Session[MOST_SESSIONS];
    private int sessionCount;
    private final int[] foundServices = new int[MOST_SERVICES];
    private int foundCount;
    // Rows that a look writes anew each time, so that no call makes its own.
    private final int[] hopsToNetwork = new int[MOST_NETWORKS];
    private final int[] namesakes = new int[MOST_SERVICES];
    private int now;

    public ZoneNet(int interval, int tries, int release) {
        this.interval = 1 + (interval & 3);
        this.tries = 1 + (tries & 3);
        this.release = 1 + (release & 15);
    }

    public boolean write(char c) {
        if (c < FIRST_CHARACTER || c > LAST_CHARACTER || text.length() >= MOST_CHARACTERS) {
            return false;
        }
        // No call answers a text, so capitals become small here and alike names are equal ones.
        text.append(c >= 'A' && c <= 'Z' ? (char) (c - 'A' + 'a') : c);
        return true;
    }

    public int network() {
        String zone = takeText();
        return Names.isName(zone) ? mesh.addNetwork(zone) : NONE;
    }

    public int router(int mask) {
        return mesh.addRouter(mask);
    }

    public boolean power(int router, boolean on) {
        if (!mesh.hasRouter(router) || mesh.routers[router].on == on) {
            return false;
        }
        mesh.routers[router].turn(on);
        return true;
    }

    public int node(int network, int wish) {
        return mesh.addNode(network, wish);
    }

    public int name(int address) {
        Pattern names = Pattern.ofNames(takeText());
        if (!mesh.hasNode(address)) {
            return -1;
        }
        if (names == null) {
            return -2;
        }
        int network = address / ADDRESSES;
        if (look(network, names, namesakes) > 0) {
            return -3;
        }
        if (serviceCount >= MOST_SERVICES) {
            return -4;
        }
        services[serviceCount] = new Service(network, names.object, names.type);
        return serviceCount++;
    }

    public boolean drop(int service) {
        if (!hasService(service) || services[service].dropped) {
            return false;
        }
        services[service].dropped = true;
        return true;
    }

    public int lookup(int address) {
        Pattern pattern = Pattern.of(takeText());
        if (!mesh.hasNode(address)) {
            return -1;
        }
        if (pattern == null) {
            return -2;
        }
        foundCount = look(address / ADDRESSES, pattern, foundServices);
        return foundCount;
    }

    public int found(int k) {
        return k >= 0 && k < foundCount ? foundServices[k] : NONE;
    }

    public int tick() {
        now++;
        int pairs = mesh.tellPairs();
        if (now % 2 == 0) {
            mesh.ageEntries();
        }
        mesh.takePairs();
        mesh.learnZones();
        releaseOld();
        countSilence();
        tryAgain();
        return pairs;
    }

    public int route(int router, int network) {
        if (!mesh.hasRouter(router) || !mesh.hasNetwork(network)) {
            return NONE;
        }
        return mesh.routers[router].table[network].inOneNumber();
    }

    public int hops(int a, int b) {
        return mesh.hasNetwork(a) && mesh.hasNetwork(b) ? mesh.countHops(a, b) : NONE;
    }

    public int open(int address, int service) {
        if (!mesh.hasNode(address) || !hasService(service) || services[service].dropped) {
            return -1;
        }
        int network = address / ADDRESSES;
        if (!mesh.areJoined(network, services[service].network)) {
            return -2;
        }
        if (sessionCount >= MOST_SESSIONS) {
            return -3;
        }
        sessions[sessionCount] = new Session(sessionCount, network, services[service]);
        return sessionCount++;
    }

    public int command(int session, int key, int value, int parts) {
        if (!hasSession(session) || sessions[session].closed) {
            return -1;
        }
        Session s = sessions[session];
        if (s.state == UNDER_WAY) {
            return -2;
        }
        if (key < 0 || key >= 2 * RECORDS || parts < 1 || parts > MOST_PARTS) {
            return -3;
        }
        s.begin(key, value, parts);
        tryOnce(s);
        return s.number;
    }

    public int status(int session) {
        if (!hasSession(session)) {
            return NONE;
        }
        return sessions[session].state + (sessions[session].closed ? CLOSED : 0);
    }

    public int reply(int session) {
        return hasSession(session) ? sessions[session].latestAnswer : 0;
    }

    public int missing(int session) {
        return hasSession(session) ? sessions[session].missingParts : NONE;
    }

    public int ledger(int service, int key) {
        return hasService(service) ? services[service].account(key) : 0;
    }

    public void faults(int bits) {
        line.faultBits = bits;
    }

    public int packets() {
        return line.sent;
    }

    private String takeText() {
        String taken = text.toString();
        text.setLength(0);
        return taken;
    }

    private boolean hasService(int service) {
        return service >= 0 && service < serviceCount;
    }

    private boolean hasSession(int session) {
        return session >= 0 && session < sessionCount;
    }

    /** Looks from a network; the services found go into the row, the nearest first. */
    private int look(int network, Pattern pattern, int[] into) {
        mesh.lookAround(network, pattern.zone, hopsToNetwork);
        int count = 0;
        for (int hops = 0; hops <= MOST_HOPS; hops++) {
            for (int s = 0; s < serviceCount; s++) {
                Service service = services[s];
                boolean isFound = hopsToNetwork[service.network] == hops && service.fits(pattern);
                if (isFound && count < into.length) {
                    into[count++] = s;
                }
            }
        }
        return count;
    }

    private void releaseOld() {
        for (int s = 0; s < serviceCount; s++) {
            services[s].releaseUpTo(now - release);
        }
    }

    private void countSilence() {
        for (int s = 0; s < sessionCount; s++) {
            Session session = sessions[s];
            if (!session.closed) {
                session.hear(mesh.areJoined(session.network, session.service.network));
            }
        }
    }

    private void tryAgain() {
        for (int s = 0; s < sessionCount; s++) {
            Session session = sessions[s];
            if (session.state != UNDER_WAY || now - session.triedAt < interval) {
                continue;
            }
            if (session.tried >= tries) {
                session.state = FAILED;
            } else {
                tryOnce(session);
            }
        }
    }

    private void tryOnce(Session session) {
        session.tried++;
        session.triedAt = now;
        Service service = session.service;
        if (!line.carries(session.network, service.network) || service.dropped) {
            return;
        }
        Listed entry = service.entryFor(session);
        if (entry == null) {
            return;
        }
        entry.time = now;
        sendMissingParts(session);
        if (session.missingParts == 0) {
            session.state = DONE;
            session.latestAnswer = entry.answer;
            if (line.carries(session.network, service.network)) {
                entry.used = false;
            }
        }
    }

    private void sendMissingParts(Session session) {
        for (int part = 0; part < MOST_PARTS; part++) {
            int bit = 1 << part;
            if ((session.missingParts & bit) != 0
                    && line.carries(session.service.network, session.network)) {
                session.missingParts -= bit;
            }
        }
    }

    /** What texts are: names, masks, and which name fits which mask. All texts are in small letters. */
    private static final class Names {
        static boolean isName(String text) {
            return !text.isEmpty() && countSigns(text) == 0;
        }

        static boolean isMask(String text) {
            return isName(text) || text.equals("=")
                    || countSigns(text) == 1 && text.indexOf('~') >= 0;
        }

        static boolean fits(String mask, String name) {
            int before = mask.indexOf('~');
            if (before < 0) {
                return mask.equals("=") || mask.equals(name);
            }
            int behind = mask.length() - before - 1;
            return name.length() >= before + behind
                    && isSame(mask, 0, name, 0, before)
                    && isSame(mask, before + 1, name, name.length() - behind, behind);
        }

        private static int countSigns(String text) {
            int count = 0;
            for (int i = 0; i < text.length(); i++) {
                if (SIGNS.indexOf(text.charAt(i)) >= 0) {
                    count++;
                }
            }
            return count;
        }

        private static boolean isSame(String a, int fromA, String b, int fromB, int length) {
            for (int i = 0; i < length; i++) {
                if (a.charAt(fromA + i) != b.charAt(fromB + i)) {
                    return false;
                }
            }
            return true;
        }
    }

    /** What is looked for: a mask for the object, one for the type, and a zone or * for one's own. */
    private static final class Pattern {
        private final String object;
        private final String type;
        private final String zone;

        private Pattern(String object, String type, String zone) {
            this.object = object;
            this.type = type;
            this.zone = zone;
        }

        /** The pattern that the text is, or null. */
        static Pattern of(String text) {
            int colon = text.indexOf(':');
            int at = text.indexOf('@');
            if (colon < 0 || at < colon) {
                return null;
            }
            String object = text.substring(0, colon);
            String type = text.substring(colon + 1, at);
            String zone = text.substring(at + 1);
            boolean isZone = zone.equals("*") || Names.isName(zone);
            return isZone && Names.isMask(object) && Names.isMask(type)
                    ? new Pattern(object, type, zone) : null;
        }

        /** The pattern for an object and a type that are both names, in one's own zone, or null. */
        static Pattern ofNames(String text) {
            int colon = text.indexOf(':');
            if (colon < 0) {
                return null;
            }
            String object = text.substring(0, colon);
            String type = text.substring(colon + 1);
            return Names.isName(object) && Names.isName(type)
                    ? new Pattern(object, type, "*") : null;
        }
    }

    private static final class Network {
        private final String zone;
        // As long as the addresses of a network, so that any address can be asked for.
        private final boolean[] nodes = new boolean[ADDRESSES];

        private Network(String zone) {
            this.zone = zone;
        }
    }

    /** What a router knows of one network. */
    private static final class Entry {
        private boolean there;
        private int distance;
        private int next;
        private int port;
        private int health;
        private boolean zoneKnown;
        private boolean zoneWasKnown;

        void becomeOwn(int network) {
            there = true;
            distance = 0;
            next = NONE;
            port = network;
            health = GOOD;
            zoneKnown = true;
        }

        void remove() {
            there = false;
            // A later entry takes over what was known only from an entry that is still there.
            zoneKnown = false;
        }

        void age() {
            if (!there || next == NONE) {
                return;
            }
            if (health == BAD) {
                remove();
            } else {
                health++;
            }
        }

        /** Takes what a router told on a port: a distance, or GONE. */
        void take(int told, int teller, int on) {
            if (there && next == NONE) {
                return;
            }
            boolean sameWay = there && next == teller && port == on;
            if (told == GONE) {
                if (sameWay) {
                    health = BAD;
                }
            } else if (told == FARTHEST) {
                if (sameWay) {
                    remove();
                }
            } else if (!there || health == BAD || distance >= told + 1 || sameWay) {
                there = true;
                distance = told + 1;
                next = teller;
                port = on;
                health = GOOD;
            }
        }

        int inOneNumber() {
            if (!there) {
                return NONE;
            }
            int number = distance + 1024 * port;
            if (health != GOOD) {
                number += health == SUSPECT ? 16 : 32;
            }
            if (zoneKnown) {
                number += 64;
            }
            return next == NONE ? number : number + 128 * (1 + next);
        }
    }

    private static final class Router {
        private final boolean[] ports = new boolean[MOST_NETWORKS];
        private final int portCount;
        private boolean on;
        private final Entry[] table = new Entry[MOST_NETWORKS];
        // What it tells in this tick of each network, and the port on which it does not tell it.
        private final int[] told = new int[MOST_NETWORKS];
        private final int[] untoldPort = new int[MOST_NETWORKS];

        private Router(int mask) {
            for (int k = 0; k < MOST_NETWORKS; k++) {
                ports[k] = (mask >> k & 1) == 1;
                table[k] = new Entry();
            }
            portCount = Integer.bitCount(mask);
        }

        void turn(boolean turnedOn) {
            on = turnedOn;
            for (int k = 0; k < MOST_NETWORKS; k++) {
                if (on && ports[k]) {
                    table[k].becomeOwn(k);
                } else {
                    table[k].remove();
                }
            }
        }

        int tellPairs() {
            int pairs = 0;
            for (int k = 0; k < MOST_NETWORKS; k++) {
                Entry entry = table[k];
                told[k] = NONE;
                if (entry.there) {
                    told[k] = entry.health == BAD ? GONE : entry.distance;
                    untoldPort[k] = entry.port;
                    // An entry's port is always one of the router's.
                    pairs += portCount - 1;
                }
            }
            return pairs;
        }

        void takeFrom(Router teller, int number) {
            for (int p = 0; p < MOST_NETWORKS; p++) {
                if (!ports[p] || !teller.ports[p]) {
                    continue;
                }
                for (int k = 0; k < MOST_NETWORKS; k++) {
                    if (teller.told[k] != NONE && teller.untoldPort[k] != p) {
                        table[k].take(teller.told[k], number, p);
                    }
                }
            }
        }
    }

    /** The networks, the routers between them, and the ways that the routers know. */
    private static final class Mesh {
        private final Network[] networks = new Network[MOST_NETWORKS];
        private int networkCount;
        private final Router[] routers = new Router[MOST_ROUTERS];
        private int routerCount;

        boolean hasNetwork(int network) {
            return network >= 0 && network < networkCount;
        }

        boolean hasRouter(int router) {
            return router >= 0 && router < routerCount;
        }

        boolean hasNode(int address) {
            return address >= 0 && hasNetwork(address / ADDRESSES)
                    && networks[address / ADDRESSES].nodes[address % ADDRESSES];
        }

        int addNetwork(String zone) {
            if (networkCount >= MOST_NETWORKS) {
                return NONE;
            }
            networks[networkCount] = new Network(zone);
            return networkCount++;
        }

        int addRouter(int mask) {
            int ports = Integer.bitCount(mask);
            boolean allThere = mask >>> networkCount == 0;
            if (ports < LEAST_PORTS || ports > MOST_PORTS || !allThere
                    || routerCount >= MOST_ROUTERS) {
                return NONE;
            }
            routers[routerCount] = new Router(mask);
            routers[routerCount].turn(true);
            return routerCount++;
        }

        int addNode(int network, int wish) {
            if (!hasNetwork(network) || wish < 1 || wish > MOST_NODES) {
                return NONE;
            }
            boolean[] nodes = networks[network].nodes;
            for (int step = 0; step < MOST_NODES; step++) {
                int identity = 1 + (wish - 1 + step) % MOST_NODES;
                if (!nodes[identity]) {
                    nodes[identity] = true;
                    return ADDRESSES * network + identity;
                }
            }
            return NONE;
        }

        int countHops(int from, int to) {
            if (from == to) {
                return 0;
            }
            int router = firstRouter(from);
            for (int hops = 1; hops <= MOST_HOPS && hasRouter(router); hops++) {
                Entry entry = routers[router].table[to];
                if (!entry.there || entry.health == BAD) {
                    return NONE;
                }
                if (entry.distance == 0) {
                    return hops;
                }
                router = entry.next;
            }
            return NONE;
        }

        boolean areJoined(int a, int b) {
            return countHops(a, b) != NONE && countHops(b, a) != NONE;
        }

        /** Writes for each network the hops to it if it is looked at, else NONE. */
        void lookAround(int from, String zone, int[] hopsTo) {
            String asked = zone.equals("*") ? networks[from].zone : zone;
            int first = firstRouter(from);
            for (int k = 0; k < networkCount; k++) {
                boolean known = k == from || first != NONE && routers[first].table[k].zoneKnown;
                boolean looked = known && asked.equals(networks[k].zone) && areJoined(from, k);
                hopsTo[k] = looked ? countHops(from, k) : NONE;
            }
        }

        int tellPairs() {
            int pairs = 0;
            for (int r = 0; r < routerCount; r++) {
                pairs += routers[r].tellPairs();
            }
            return pairs;
        }

        void ageEntries() {
            for (int r = 0; r < routerCount; r++) {
                for (int k = 0; k < networkCount; k++) {
                    routers[r].table[k].age();
                }
            }
        }

        void takePairs() {
            for (int r = 0; r < routerCount; r++) {
                for (int s = 0; s < routerCount; s++) {
                    if (s != r && routers[r].on) {
                        routers[r].takeFrom(routers[s], s);
                    }
                }
            }
        }

        void learnZones() {
            for (int r = 0; r < routerCount; r++) {
                for (int k = 0; k < networkCount; k++) {
                    Entry entry = routers[r].table[k];
                    entry.zoneWasKnown = entry.zoneKnown;
                }
            }
            for (int r = 0; r < routerCount; r++) {
                for (int k = 0; k < networkCount; k++) {
                    Entry entry = routers[r].table[k];
                    if (entry.there && !entry.zoneKnown && hasRouter(entry.next)) {
                        entry.zoneKnown = routers[entry.next].table[k].zoneWasKnown;
                    }
                }
            }
        }

        private int firstRouter(int network) {
            for (int r = 0; r < routerCount; r++) {
                if (routers[r].on && routers[r].ports[network]) {
                    return r;
                }
            }
            return NONE;
        }
    }

    /** Sends packets over the mesh, counts them, and loses those that the faults name. */
    private static final class Line {
        private final Mesh mesh;
        private int faultBits;
        private int sent;

        private Line(Mesh mesh) {
            this.mesh = mesh;
        }

        boolean carries(int from, int to) {
            boolean lost = (faultBits & 1) == 1;
            faultBits >>>= 1;
            sent++;
            return !lost && mesh.countHops(from, to) != NONE;
        }
    }

    /** A place on a service's list: the answer that was given to a session's command. */
    private static final class Listed {
        private boolean used;
        private int session;
        private int number;
        private int answer;
        private int time;
    }

    private static final class Service {
        private final int network;
        private final String object;
        private final String type;
        private boolean dropped;
        private final int[] records = new int[RECORDS];
        private int doneCount;
        private final Listed[] list = new Listed[MOST_LISTED];

        private Service(int network, String object, String type) {
            this.network = network;
            this.object = object;
            this.type = type;
            for (int i = 0; i < MOST_LISTED; i++) {
                list[i] = new Listed();
            }
        }

        boolean fits(Pattern pattern) {
            return !dropped && Names.fits(pattern.object, object)
                    && Names.fits(pattern.type, type);
        }

        /** The entry of the session's command, carried out if it is not listed; null if there is no room. */
        Listed entryFor(Session session) {
            Listed free = null;
            for (int i = 0; i < MOST_LISTED; i++) {
                Listed entry = list[i];
                if (!entry.used) {
                    free = entry;
                } else if (entry.session == session.index && entry.number == session.number) {
                    return entry;
                }
            }
            if (free != null) {
                free.used = true;
                free.session = session.index;
                free.number = session.number;
                free.answer = carryOut(session.key, session.value);
            }
            return free;
        }

        private int carryOut(int key, int value) {
            doneCount++;
            int before = records[key % RECORDS];
            if (key >= RECORDS) {
                records[key % RECORDS] = value;
            }
            return before;
        }

        void releaseUpTo(int time) {
            for (int i = 0; i < MOST_LISTED; i++) {
                if (list[i].time <= time) {
                    list[i].used = false;
                }
            }
        }

        int account(int key) {
            if (key >= 0 && key < RECORDS) {
                return records[key];
            }
            if (key == RECORDS) {
                return doneCount;
            }
            return key == RECORDS + 1 ? countListed() : 0;
        }

        private int countListed() {
            int count = 0;
            for (int i = 0; i < MOST_LISTED; i++) {
                if (list[i].used) {
                    count++;
                }
            }
            return count;
        }
    }

    /** A session with its latest command. */
    private static final class Session {
        private final int index;
        private final int network;
        private final Service service;
        private boolean closed;
        private int silence;
        private int number = NONE;
        private int state;
        private int key;
        private int value;
        private int missingParts;
        private int tried;
        private int triedAt;
        private int latestAnswer;

        private Session(int index, int network, Service service) {
            this.index = index;
            this.network = network;
            this.service = service;
        }

        void begin(int newKey, int newValue, int parts) {
            number++;
            state = UNDER_WAY;
            key = newKey;
            value = newValue;
            missingParts = (1 << parts) - 1;
            tried = 0;
        }

        void hear(boolean joined) {
            silence = joined ? 0 : silence + 1;
            if (silence >= SILENCE_LIMIT) {
                closed = true;
                if (state == UNDER_WAY) {
                    state = FAILED;
                }
            }
        }
    }
}
