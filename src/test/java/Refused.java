import java.util.ArrayList;
import java.util.List;
import java.util.function.Predicate;
import java.util.function.ToLongFunction;

/**
 * A call that is refused answers as is due, and changes nothing but the text: whatever is asked of a twin that was
 * given it is answered as by a twin that was not. The object itself is left as it is.
 */
final class Refused {
    private interface Question {
        void ask(Net net, List<Long> answers);
    }

    /** Stands in the text before a call that must leave it alone; the questions write on from there. */
    private static final String BEGUN = "te";

    private static final Question[] QUESTIONS = {Refused::tables, Refused::sessions, Refused::ledgers,
        Refused::roomInTheText, Refused::textAsZone, Refused::textAsName, Refused::textAsPattern, Refused::newNetworks,
        Refused::newNodes, Refused::newServices, Refused::newSessions, Refused::newCommands, Refused::time,
        Refused::power, Refused::drops};

    private Refused() {
    }

    /** A call that does not use the text. */
    static void is(Net net, String call, long want, ToLongFunction<Net> refused) {
        Net begun = net.again().type(BEGUN);
        compare(begun, begun, call, want, refused);
    }

    static void isFalse(Net net, String call, Predicate<Net> refused) {
        is(net, call, 0, n -> refused.test(n) ? 1 : 0);
    }

    /** A call where the text is already as it should be left. */
    static void withTextAsItIs(Net net, String call, long want, ToLongFunction<Net> refused) {
        compare(net, net, call, want, refused);
    }

    /** A call that uses the text and empties it: afterwards all is as if the text had never been written. */
    static void emptying(Net net, String text, String call, long want, ToLongFunction<Net> refused) {
        compare(net, net.again().type(text), call + " with " + text, want, refused);
    }

    private static void compare(Net without, Net before, String call, long want, ToLongFunction<Net> refused) {
        Check.due(call, want, refused.applyAsLong(before.again()));
        for (int q = 0; q < QUESTIONS.length; q++) {
            Net twin = before.again();
            refused.applyAsLong(twin);
            List<Long> due = new ArrayList<>();
            List<Long> got = new ArrayList<>();
            QUESTIONS[q].ask(without.again(), due);
            QUESTIONS[q].ask(twin, got);
            Check.due(call + " changes nothing (question " + q + ": " + due + ", " + got + ")", true, due.equals(got));
        }
    }

    private static void add(List<Long> answers, boolean answer) {
        answers.add(answer ? 1L : 0L);
    }

    /** Writes as much as there is room for, which is not the test's own concern here. */
    private static void write(Net net, String text, List<Long> answers) {
        for (char c : text.toCharArray()) {
            add(answers, net.write(c));
        }
    }

    private static void look(Net net, String pattern, List<Long> answers) {
        write(net, pattern, answers);
        answers.add((long) net.lookup(1));
        for (int k = 0; k < 4; k++) {
            answers.add((long) net.found(k));
        }
    }

    private static void tables(Net net, List<Long> answers) {
        for (int network = 0; network < 8; network++) {
            for (int router = 0; router < 6; router++) {
                answers.add((long) net.route(router, network));
            }
            for (int to = 0; to < 8; to++) {
                answers.add((long) net.hops(network, to));
            }
        }
    }

    private static void sessions(Net net, List<Long> answers) {
        for (int session = 0; session < 12; session++) {
            answers.add((long) net.status(session));
            answers.add((long) net.reply(session));
            answers.add((long) net.missing(session));
        }
        for (int k = 0; k < 17; k++) {
            answers.add((long) net.found(k));
        }
        answers.add((long) net.packets());
    }

    private static void ledgers(Net net, List<Long> answers) {
        for (int service = 0; service < 16; service++) {
            for (int key = 0; key < 6; key++) {
                answers.add((long) net.ledger(service, key));
            }
        }
    }

    private static void roomInTheText(Net net, List<Long> answers) {
        write(net, "xxxxxxxxxxxxxxxxxxxxxxxxxxxxxxxxx", answers);
    }

    private static void textAsZone(Net net, List<Long> answers) {
        write(net, "xt", answers);
        int network = net.network();
        answers.add((long) network);
        answers.add((long) net.node(network, 1));
        write(net, "u:v", answers);
        answers.add((long) net.name(8 * network + 1));
        write(net, "=:=@text", answers);
        answers.add((long) net.lookup(8 * network + 1));
        write(net, "=:=@xt", answers);
        answers.add((long) net.lookup(8 * network + 1));
    }

    private static void textAsName(Net net, List<Long> answers) {
        write(net, "xt:t", answers);
        answers.add((long) net.name(1));
        look(net, "text:t@*", answers);
        look(net, "xt:t@*", answers);
        look(net, "~:t~@*", answers);
    }

    private static void textAsPattern(Net net, List<Long> answers) {
        look(net, "~:=@*", answers);
    }

    private static void newNetworks(Net net, List<Long> answers) {
        net.network();
        for (int i = 0; i < 9; i++) {
            net.write('n');
            answers.add((long) net.network());
        }
        for (int i = 0; i < 7; i++) {
            answers.add((long) net.router(3 << i));
        }
    }

    private static void newNodes(Net net, List<Long> answers) {
        for (int network = 0; network < 8; network++) {
            for (int i = 0; i < 7; i++) {
                answers.add((long) net.node(network, 1 + network % 6));
            }
        }
    }

    private static void newServices(Net net, List<Long> answers) {
        net.network();
        for (int i = 0; i < 17; i++) {
            write(net, (char) ('0' + i % 10) + ":" + (i < 10 ? "p" : "q"), answers);
            answers.add((long) net.name(1));
        }
        look(net, "=:=@*", answers);
    }

    private static void newSessions(Net net, List<Long> answers) {
        for (int i = 0; i < 13; i++) {
            answers.add((long) net.open(1, i % 3));
            answers.add((long) net.status(i));
        }
    }

    /** Also tells which faults are left, by the parts that are missing. */
    private static void newCommands(Net net, List<Long> answers) {
        for (int session = 0; session < 12; session++) {
            answers.add((long) net.command(session, 4 + session % 4, 77 + session, 8));
            answers.add((long) net.missing(session));
            answers.add((long) net.reply(session));
            answers.add((long) net.packets());
        }
        for (int i = 0; i < 5; i++) {
            answers.add((long) net.tick());
            sessions(net, answers);
        }
    }

    private static void time(Net net, List<Long> answers) {
        for (int i = 0; i < 16; i++) {
            answers.add((long) net.tick());
            answers.add((long) net.packets());
            answers.add((long) net.route(0, 2));
            answers.add((long) net.ledger(0, 5));
            answers.add((long) net.ledger(2, 5));
            for (int session = 0; session < 5; session++) {
                answers.add((long) net.status(session));
                answers.add((long) net.missing(session));
            }
        }
        ledgers(net, answers);
    }

    private static void power(Net net, List<Long> answers) {
        for (int router = 0; router < 6; router++) {
            add(answers, net.power(router, false));
        }
        for (int router = 0; router < 6; router++) {
            add(answers, net.power(router, true));
        }
        answers.add((long) net.tick());
        tables(net, answers);
    }

    private static void drops(Net net, List<Long> answers) {
        net.network();
        look(net, "=:=@*", answers);
        for (int service = 0; service < 16; service++) {
            add(answers, net.drop(service));
        }
        look(net, "=:=@*", answers);
    }
}
