/** NODES and ADDRESSES, promise 6. */
public final class NodeTest {
    private static void refused(Net net, int network, int wish) {
        Refused.is(net, "node(" + network + ", " + wish + ")", -1, n -> n.node(network, wish));
    }

    /** "The ADDRESS of a node is 8 * network + identity.": the first and the last of all. */
    private static void addresses() {
        Net net = Net.mesh(8);
        Check.due("node(0, 1)", 1, net.node(0, 1));
        Check.due("node(0, 6)", 6, net.node(0, 6));
        Check.due("node(7, 1)", 57, net.node(7, 1));
        Check.due("node(7, 6)", 62, net.node(7, 6));
    }

    /** "Refused (-1) if there is no such network" */
    private static void noSuchNetwork() {
        for (int network : Check.outside(Scene.NETWORKS)) {
            refused(Scene.rich(), network, 1);
        }
        Check.due("node on the last", 8 * Scene.NETWORKS - 6, Scene.rich().node(Scene.NETWORKS - 1, 2));
        refused(Scene.brim(), 8, 1);
        refused(new Net(), 0, 1);
    }

    /** "wish is not 1 .. 6" */
    private static void wishes() {
        for (int wish : Check.outside(1, 6)) {
            refused(Scene.rich(), 0, wish);
        }
        refused(Scene.rich(), 0, 8);
        Check.due("node(1, 1)", 9, Net.mesh(2).node(1, 1));
        Check.due("node(1, 6)", 14, Net.mesh(2).node(1, 6));
    }

    /** "or six nodes are there on the network" */
    private static void sixNodes() {
        for (int wish = 1; wish <= 6; wish++) {
            Net net = Net.mesh(3);
            for (int i = 0; i < 6; i++) {
                Check.due("node(2, " + wish + "), " + i + " there", 17 + (wish - 1 + i) % 6, net.node(2, wish));
            }
            refused(net, 2, wish);
            Check.due("a node on another network", 8 + wish, net.node(1, wish));
        }
        refused(Scene.brim(), 0, 3);
    }

    /** "the first of wish, wish + 1, .. (1 following on 6) that no node of the network has" */
    private static void oneFollowsOnSix() {
        Net net = Net.mesh(2);
        Check.due("node(0, 6)", 6, net.node(0, 6));
        Check.due("node(0, 6) again", 1, net.node(0, 6));
        Check.due("node(0, 5)", 5, net.node(0, 5));
        Check.due("node(0, 5) again, 6 and 1 are there", 2, net.node(0, 5));
        Check.due("node(1, 6) on the other network", 14, net.node(1, 6));
    }

    /** The same where a free one lies between others. */
    private static void theFirstThatIsFree() {
        Net net = Net.mesh(1).nodes(2, 4, 5);
        Check.due("node(0, 2)", 3, net.node(0, 2));
        Check.due("node(0, 2) again", 6, net.node(0, 2));
        Check.due("node(0, 2) a third time", 1, net.node(0, 2));
    }

    public static void main(String[] args) {
        addresses();
        noSuchNetwork();
        wishes();
        sixNodes();
        oneFollowsOnSix();
        theFirstThatIsFree();
        Check.end();
    }
}
