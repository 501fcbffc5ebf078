/** A router's entry as the tests write it: 2B?>1@4 is distance 2, BAD, zone not known, next router 1, port 4. */
final class Entry {
    private Entry() {
    }

    /** The number that route answers; "-" is no entry, and without a letter the entry is GOOD. */
    static int number(String entry) {
        if (entry.equals("-")) {
            return -1;
        }
        int at = entry.indexOf('@');
        int arrow = entry.indexOf('>');
        String front = entry.substring(0, arrow < 0 ? at : arrow);
        int number = Integer.parseInt(front.replaceAll("[SB?]", ""));
        number += front.contains("S") ? 16 : 0;
        number += front.contains("B") ? 32 : 0;
        number += front.contains("?") ? 0 : 64;
        number += arrow < 0 ? 0 : 128 * (1 + Integer.parseInt(entry.substring(arrow + 1, at)));
        return number + 1024 * Integer.parseInt(entry.substring(at + 1));
    }

    static void due(Net net, int router, int network, String entry) {
        Check.due("route(" + router + ", " + network + ") as " + entry, number(entry), net.route(router, network));
    }

    /** The entries of a router for the networks 0, 1, .., with blanks between them. */
    static void table(Net net, int router, String entries) {
        String[] each = entries.trim().split(" +");
        for (int network = 0; network < each.length; network++) {
            due(net, router, network, each[network]);
        }
    }
}
