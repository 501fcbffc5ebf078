/** TEXT and NETWORKS, promises 2 and 3: what can be written, who empties it, names, and networks whose zones are names. */
public final class TextTest {
    private static final String LETTERS_32 = "abcdefghijklmnopqrstuvwxyz012345";
    private static final String SIGNS = ":@=~*";

    /** "refused (false) if its code is not 32 .. 126": the lower end. */
    private static void code32() {
        Refused.isFalse(new Net(), "write of code 31", n -> n.write((char) 31));
        Check.due("write of code 32", true, new Net().write((char) 32));
    }

    /** "refused (false) if its code is not 32 .. 126": the upper end. */
    private static void code126() {
        Check.due("write of code 126", true, new Net().write((char) 126));
        Refused.isFalse(new Net(), "write of code 127", n -> n.write((char) 127));
    }

    /** The same for every code, as far as letters that look like others go. */
    private static void everyCode() {
        for (int code = 0; code <= Character.MAX_VALUE; code += code < 1000 ? 1 : 33) {
            boolean fine = code >= 32 && code <= 126;
            Check.due("write of code " + code, fine, new Net().write((char) code));
        }
        Refused.isFalse(Scene.rich(), "write of code 0", n -> n.write((char) 0));
        Refused.isFalse(Scene.rich(), "write of code 65535", n -> n.write((char) 65535));
        Refused.isFalse(Scene.rich(), "write of a letter with its lowest byte", n -> n.write((char) (256 + 'a')));
    }

    /** "or 32 are there" */
    private static void thirtyTwoCharacters() {
        Net net = Net.oneNode().type(LETTERS_32.substring(1));
        Check.due("write of the 32nd", true, net.again().write('x'));
        net.write('x');
        Refused.withTextAsItIs(net, "write of a 33rd", 0, n -> n.write('y') ? 1 : 0);
        Refused.withTextAsItIs(net, "write of a sign as the 33rd", 0, n -> n.write(':') ? 1 : 0);
        Refused.withTextAsItIs(net, "write of code 31 as the 33rd", 0, n -> n.write((char) 31) ? 1 : 0);
    }

    /** A refused 33rd character would stand in the type, and one that replaced another, too. */
    private static void theThirtyThirdIsNotInTheText() {
        Net net = Net.oneNode().type("abcdefghijklmno:abcdefghijklmnop");
        Check.due("write of a 33rd", false, net.write('q'));
        Check.due("name of 32 characters", 0, net.name(1));
        Check.due("its type", 1, net.lookup(1, "=:abcdefghijklmnop@*"));
        Check.due("its object", 1, net.lookup(1, "abcdefghijklmno:=@*"));
        Check.due("a longer type", 0, net.lookup(1, "=:~q@*"));
    }

    /** An emptied text has room for 32 characters again. */
    private static void roomAgain() {
        Net net = new Net();
        for (int i = 0; i < 3; i++) {
            net.type(LETTERS_32);
            Check.due("write of a 33rd", false, net.write('6'));
            Check.due("network with 32 characters", i, net.network());
        }
    }

    /** "network, name and lookup use the text and empty it, whatever they answer." */
    private static void emptied() {
        Net net = Net.oneNode();
        Check.due("name", 0, net.name(1, "a:b"));
        Check.due("network answers", 1, net.type("a").network());
        isEmpty(net, "network");
        Check.due("network refuses", -1, net.type(":").network());
        isEmpty(net, "a refused network");
        Check.due("name answers -1", -1, net.type("x:y").name(2));
        isEmpty(net, "name -1");
        Check.due("name answers -2", -2, net.type("x").name(1));
        isEmpty(net, "name -2");
        Check.due("name answers -3", -3, net.type("a:b").name(1));
        isEmpty(net, "name -3");
        Check.due("name answers", 1, net.type("c:d").name(1));
        isEmpty(net, "name");
        Check.due("lookup answers -1", -1, net.type("=:=@*").lookup(2));
        isEmpty(net, "lookup -1");
        Check.due("lookup answers -2", -2, net.type("=").lookup(1));
        isEmpty(net, "lookup -2");
        Check.due("lookup answers", 2, net.type("=:=@*").lookup(1));
        isEmpty(net, "lookup");
        Check.due("lookup finds nothing", 0, net.type("q:q@*").lookup(1));
        isEmpty(net, "a lookup that finds nothing");
    }

    private static void isEmpty(Net net, String by) {
        Check.due("name without text after " + by, -2, net.name(1));
        Check.due("lookup of what is there after " + by, 1, net.lookup(1, "a:b@*"));
    }

    /** The same where the refusal is for a limit. */
    private static void emptiedAtTheLimits() {
        Net net = Scene.brim();
        Check.due("a ninth network", -1, net.network("e"));
        Check.due("lookup after it", 1, net.lookup(1, "a:t@*"));
        Check.due("a seventeenth service", -4, net.name(1, "x:y"));
        Check.due("lookup after it", 1, net.lookup(1, "a:t@*"));
    }

    /** Only those three use the text. */
    private static void otherCallsLeaveTheText() {
        Net net = new Net().zones("a", "b").type("c");
        net.router(3);
        net.power(0, false);
        net.node(0, 1);
        net.drop(0);
        net.found(0);
        net.tick();
        net.route(0, 0);
        net.hops(0, 1);
        net.open(1, 0);
        net.command(0, 0, 0, 1);
        net.status(0);
        net.reply(0);
        net.missing(0);
        net.ledger(0, 0);
        net.faults(1);
        net.packets();
        Check.due("network with the text kept", 2, net.network());
    }

    /** "a NAME is one character or more" */
    private static void oneCharacterOrMore() {
        Refused.emptying(Scene.rich(), "", "network", -1, Net::network);
        Check.due("network of one character", 0, new Net().network("a"));
        Check.due("network of 32 characters", 0, new Net().network(LETTERS_32));
    }

    /** "none of them a sign": each sign, wherever it stands. */
    private static void noSign() {
        for (char sign : SIGNS.toCharArray()) {
            for (String text : new String[] {"" + sign, sign + "a", "a" + sign, "a" + sign + "b"}) {
                Refused.emptying(Scene.rich(), text, "network", -1, Net::network);
            }
        }
    }

    /** "The five SIGNS are : @ = ~ *": every other character is a name alone. */
    private static void everyOtherCharacter() {
        for (char c = 32; c <= 126; c++) {
            boolean sign = SIGNS.indexOf(c) >= 0;
            Check.due("network of " + c, sign ? -1 : 0, new Net().network(String.valueOf(c)));
        }
    }

    /** "NETWORKS 0, 1, .. in the order of their making, at most 8"; "Refused (-1) if .. 8 networks are there." */
    private static void eightNetworks() {
        Net net = new Net();
        for (int i = 0; i < 8; i++) {
            Check.due("network " + i, i, net.network("a"));
        }
        Check.due("hops(7, 7)", 0, net.hops(7, 7));
        Check.due("hops(8, 8)", -1, net.hops(8, 8));
        Refused.emptying(net, "a", "a ninth network", -1, Net::network);
        Refused.emptying(Scene.brim(), "e", "a ninth network", -1, Net::network);
        Refused.emptying(Scene.brim(), ":", "a ninth network of no name", -1, Net::network);
    }

    /** "Two names are ALIKE when they are equal, a capital letter A .. Z counting as its small one." */
    private static void alike() {
        for (char c = 'A'; c <= 'Z'; c++) {
            String capital = String.valueOf(c);
            String small = String.valueOf((char) (c + 32));
            Check.due(capital + " and " + small, 1, countAlike(capital, small));
            Check.due(small + " and " + capital, 1, countAlike(small, capital));
        }
        Check.due("aBc and AbC", 1, countAlike("aBc", "AbC"));
        Check.due("ab and abc", 0, countAlike("ab", "abc"));
        Check.due("abc and ab", 0, countAlike("abc", "ab"));
    }

    /** Behind Z and z, and where the codes are as far apart as capital and small letters are. */
    private static void notAlike() {
        for (int code = 32; code <= 94; code++) {
            String one = String.valueOf((char) code);
            String other = String.valueOf((char) (code + 32));
            boolean letter = code >= 'A' && code <= 'Z';
            if (!letter && SIGNS.indexOf(code) < 0 && SIGNS.indexOf(code + 32) < 0) {
                Check.due(one + " and " + other, 0, countAlike(one, other));
                Check.due(other + " and " + one, 0, countAlike(other, one));
            }
        }
    }

    private static int countAlike(String zone, String asked) {
        Net net = new Net().zones(zone).nodes(1);
        net.name(1, "s:t");
        return net.lookup(1, "=:=@" + asked);
    }

    public static void main(String[] args) {
        code32();
        code126();
        everyCode();
        thirtyTwoCharacters();
        theThirtyThirdIsNotInTheText();
        roomAgain();
        emptied();
        emptiedAtTheLimits();
        otherCallsLeaveTheText();
        oneCharacterOrMore();
        noSign();
        everyOtherCharacter();
        eightNetworks();
        alike();
        notAlike();
        Check.end();
    }
}
