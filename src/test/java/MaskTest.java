/** MASK and PATTERN, and of promise 9 which texts are refused. */
public final class MaskTest {
    /** How many services are found for a mask when there is just one, with this object. */
    private static void object(String mask, String name, int found) {
        Net net = Net.oneNode();
        Check.due("name " + name, 0, net.name(1, name + ":t"));
        Check.due("object " + name + ", mask " + mask, found, net.lookup(1, mask + ":=@*"));
    }

    private static void type(String mask, String name, int found) {
        Net net = Net.oneNode();
        Check.due("name " + name, 0, net.name(1, "o:" + name));
        Check.due("type " + name + ", mask " + mask, found, net.lookup(1, "=:" + mask + "@*"));
    }

    private static void fits(String mask, String name) {
        object(mask, name, 1);
        type(mask, name, 1);
    }

    private static void fitsNot(String mask, String name) {
        object(mask, name, 0);
        type(mask, name, 0);
    }

    /** "A MASK is a name, which FITS what is alike" */
    private static void aName() {
        fits("a", "a");
        fits("abc", "abc");
        fits("ABC", "aBc");
        fits("z", "Z");
        fitsNot("a", "b");
        fitsNot("ab", "abc");
        fitsNot("abc", "ab");
        fitsNot("bc", "abc");
        fitsNot("[", "{");
    }

    /** "or = alone, which fits everything" */
    private static void everything() {
        fits("=", "a");
        fits("=", "abcdefghijklmnopqrstuvwx");
        fits("=", " ");
    }

    /** "which fits the names that are at least as long as the parts before and behind the ~ .. together" */
    private static void asLongAsTheParts() {
        fitsNot("ab~ba", "aba");
        fits("ab~ba", "abba");
        fits("ab~ba", "abxba");
        fitsNot("a~a", "a");
        fits("a~a", "aa");
        fitsNot("abc~bcd", "abcd");
        fits("abc~bcd", "abcbcd");
    }

    /** "(either may be empty)", and both of them. */
    private static void emptyParts() {
        fits("a~", "a");
        fits("a~", "ab");
        fitsNot("ab~", "a");
        fits("~a", "a");
        fits("~a", "ba");
        fitsNot("~ba", "a");
        fits("~", "a");
        fits("~", "abc");
    }

    /** "begin with the part before it and end with the part behind it" */
    private static void beginAndEnd() {
        fits("ab~cd", "abxcd");
        fitsNot("ab~cd", "axxcd");
        fitsNot("ab~cd", "xbxcd");
        fitsNot("ab~cd", "abxxd");
        fitsNot("ab~cd", "abxcx");
        fitsNot("a~", "ba");
        fitsNot("~a", "ab");
        fitsNot("ab~", "ac");
    }

    /** "capital letters counting as small ones" */
    private static void capitals() {
        fits("A~z", "aZ");
        fits("a~Z", "Aqz");
        fits("AB~", "abc");
        fits("~BC", "abc");
        fitsNot("[~", "{a");
        fitsNot("~{", "a[");
    }

    private static void noPattern(String text) {
        Refused.emptying(Scene.rich(), text, "lookup(1)", -2, n -> n.lookup(1));
    }

    private static void noMask(String text) {
        noPattern(text + ":=@*");
        noPattern("=:" + text + "@*");
        noPattern(text + ":" + text + "@*");
    }

    /** What is no mask: nothing, = with more, two signs, or a sign other than ~. */
    private static void noMasks() {
        String[] texts = {"", "==", "=a", "a=", "a=b", "~~", "~a~", "a~~b", "=~", "~=", "*", "a*", "*a", "~*", ":", "a:",
            "@", "a@", "@a", "~@"};
        for (String text : texts) {
            noMask(text);
        }
    }

    /** "A PATTERN is a mask, :, a mask, @, and then a name or * alone.": what is behind the @. */
    private static void noZones() {
        String[] texts = {"", "**", "*a", "a*", "=", "~", "a~", "~a", "a:", ":", "a:b", "@", "a@", "@a", "a@b", "a="};
        for (String text : texts) {
            noPattern("=:=@" + text);
        }
    }

    /** The same: a part is left out, or they stand in another order. */
    private static void noPatterns() {
        String[] texts = {"", ":", "@", ":@", "@:", "*", "a", "=", "a:b", "=:=", "a@b", "=@*", "a@b:c", "@=:=", "=:=*",
            "a:b:c@d", "a:b@c@d"};
        for (String text : texts) {
            noPattern(text);
        }
    }

    /** The shortest patterns and one of 32 characters. */
    private static void patterns() {
        Net net = Net.oneNode();
        Check.due("name a:b", 0, net.name(1, "a:b"));
        Check.due("name of 28", 1, net.name(1, "abcdefghijklm:abcdefghijklmn"));
        String[] fitting = {"a:b@z", "=:b@z", "~:b@*", "a:=@*", "a:~@Z", "a~:~b@*"};
        for (String text : fitting) {
            Check.due("lookup of " + text, 1, net.lookup(1, text));
            Check.due("found(0)", 0, net.found(0));
        }
        Check.due("lookup of 30 characters", 1, net.lookup(1, "abcdefghijklm:abcdefghijklmn@*"));
        Check.due("found(0)", 1, net.found(0));
        Check.due("lookup of 32 characters", 1, net.lookup(1, "abcdefghijklm~:abcdefghijkl~mn@*"));
        Check.due("lookup in a zone of 28", 0, net.lookup(1, "=:=@abcdefghijklmnopqrstuvwxyz01"));
    }

    public static void main(String[] args) {
        aName();
        everything();
        asLongAsTheParts();
        emptyParts();
        beginAndEnd();
        capitals();
        noMasks();
        noZones();
        noPatterns();
        patterns();
        Check.end();
    }
}
