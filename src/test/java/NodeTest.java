/** Promise 6: nodes and their addresses. */
public final class NodeTest {
    private static void refused() {
        ZoneNet net = Check.withNetworks(new ZoneNet(0, 0, 0), "a", "b");
        int[] networks = {-1, 2, 8, Integer.MIN_VALUE, Integer.MAX_VALUE};
        for (int network : networks) {
            Check.due("node(" + network + ", 1)", -1, net.node(network, 1));
        }
        int[] wishes = {0, -1, 7, 8, Integer.MIN_VALUE, Integer.MAX_VALUE};
        for (int wish : wishes) {
            Check.due("node(1, " + wish + ")", -1, net.node(1, wish));
        }
        Check.due("node(1, 1) after all these", 9, net.node(1, 1));
    }

    private static void eachWishIsMetWhereItIsFree() {
        for (int wish = 1; wish <= 6; wish++) {
            ZoneNet net = Check.withNetworks(new ZoneNet(0, 0, 0), "a", "b", "c");
            for (int i = 0; i < 6; i++) {
                Check.due("node(2, " + wish + "), " + i + " there", 16 + 1 + (wish - 1 + i) % 6, net.node(2, wish));
            }
            Check.due("a seventh node", -1, net.node(2, wish));
            Check.due("a node on another network", 8 + wish, net.node(1, wish));
        }
    }

    private static void theFirstThatIsFree() {
        ZoneNet net = Check.withNetworks(new ZoneNet(0, 0, 0), "a");
        Check.due("node(0, 6)", 6, net.node(0, 6));
        Check.due("node(0, 2)", 2, net.node(0, 2));
        Check.due("node(0, 6) again", 1, net.node(0, 6));
        Check.due("node(0, 6) a third time", 3, net.node(0, 6));
        Check.due("node(0, 5)", 5, net.node(0, 5));
        Check.due("node(0, 5) again", 4, net.node(0, 5));
    }

    public static void main(String[] args) {
        refused();
        eachWishIsMetWhereItIsFree();
        theFirstThatIsFree();
        Check.end();
    }
}
