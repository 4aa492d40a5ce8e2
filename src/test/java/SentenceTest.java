/** Promises 34 and 35, and 5 for a SENTENCE. */
public final class SentenceTest {
    // a upright at 0 0, has q; b spent at 1 0; c at 5 5
    private static final String DOWNS = "downs 6 6;person a 0 0 0 9;person b 1 0 1 1;person c 5 5 2 60;wall 2 0 1;figure f 0 0;"
        + "point p 5 5 2;point q 0 0 0;";

    public static void main(String[] args) {
        faults();
        manyAndDeep();
        lengths();
        holds();
        binds();
        none();
        stays();
        Check.finish("SentenceTest");
    }

    private static CartTurns lived() {
        CartTurns x = Check.on(DOWNS);
        Check.due("b's kick", x.kick(1, 0), 0);
        Check.due("c's saying", x.say(2, 0, 0), 0);
        Check.due("c's saying", x.say(2, 0, 0), 0);
        return x;
    }

    private static void fault(String text, int place, int kind) {
        Check.dueSentence(lived(), text, -1 - place, kind);
    }

    private static void faults() {
        fault("", 0, 1);
        fault("  ", 2, 1);
        fault("upright;", 7, 1);
        fault("upright spent", 8, 1);
        fault("upright or", 10, 1);
        fault("or upright", 0, 1);
        fault("upright and or spent", 12, 1);
        fault("not", 3, 1);
        fault("not and", 4, 1);
        fault("(upright", 8, 1);
        fault("upright)", 7, 1);
        fault("()", 1, 1);
        fault("(upright spent)", 9, 1);
        fault("ann", 0, 1);
        fault("a", 0, 1);
        fault("has", 3, 1);
        fault("has a", 4, 3);
        fault("has f", 4, 3);
        fault("has x", 4, 3);
        fault("has by", 4, 1);
        fault("has 1", 4, 1);
        fault("by p", 3, 3);
        fault("by f", 3, 3);
        fault("by x", 3, 3);
        fault("by (", 3, 1);
        fault("breath 3", 7, 1);
        fault("breath = a", 9, 1);
        fault("breath ; 3", 7, 1);
        fault("breath = 1000", 9, 1);
        fault("breath = = 3", 9, 1);
        fault("up < ", 5, 1);
        fault("says = 1", 0, 1);
        fault("hour = 1", 0, 1);
        fault("7", 0, 1);
        fault("upright & spent", 8, 1);
    }

    private static void manyAndDeep() {
        String twenty = "up=1" + " or up=1".repeat(19);
        CartTurns x = lived();
        Check.dueSentence(x, twenty, 20, 0);
        Check.due("said(-1)", x.said(-1), 1);
        fault(twenty + " or spent", twenty.length() + 4, 4);
        fault(twenty + " or (", twenty.length() + 4, 4);
        fault(twenty + " or x", twenty.length() + 4, 1);
        fault(twenty + " or", twenty.length() + 3, 1);
        fault(twenty + " or has x", twenty.length() + 4, 4);
        Check.dueSentence(x, "not ".repeat(7) + "spent", 8, 0);
        Check.due("said(-1)", x.said(-1), 2);
        fault("not ".repeat(8) + "spent", 32, 4);
        fault("not ".repeat(9) + "spent", 32, 4);
        fault("not ".repeat(8) + "x", 32, 1);
        fault("not ".repeat(8), 32, 1);
        Check.dueSentence(x, "(".repeat(7) + "spent" + ")".repeat(7), 8, 0);
        fault("(".repeat(8) + "spent" + ")".repeat(8), 8, 4);
        Check.dueSentence(x, "(not(not(not spent)))and(not(not(not spent)))", 14, 0);
        Check.due("said(1)", x.said(1), 2);
        fault("(not(not(not(not spent))))", 17, 4);
        fault("not(not(not(not(not spent))))", 16, 4);
        fault("(" + twenty + ")", 1 + twenty.length() - 4, 4);
    }

    private static void lengths() {
        String to200 = "spent" + " ".repeat(195);
        CartTurns x = lived();
        Check.dueSentence(x, to200, 1, 0);
        fault(to200 + " ", 200, 1);
        fault(to200 + "or spent", 200, 1);
        fault(to200.substring(0, 199) + "or spent", 200, 1);
        fault(to200.substring(0, 199) + "spent", 199, 1);
        fault(to200.substring(0, 192) + "or has xyz", 199, 3);
    }

    private static void said(String text, int ones, int... who) {
        CartTurns x = lived();
        Check.dueSentence(x, text, ones, 0);
        Check.due("said(-1) of " + text, x.said(-1), who.length);
        for (int k = 0; k < who.length; k++) {
            Check.due("said(" + k + ") of " + text, x.said(k), who[k]);
        }
        Check.due("said(" + who.length + ") of " + text, x.said(who.length), -1);
        Check.due("said(-2) of " + text, x.said(-2), -1);
    }

    private static void holds() {
        said("upright", 1, 0);
        said("spent", 1, 1);
        said("settled", 1);
        said("has p", 1, 2);
        said("has q", 1, 0);
        said("by a", 1, 1);
        said("by b", 1, 0);
        said("by c", 1);
        said("breath=9", 1, 0);
        said("breath<9", 1, 1);
        said("breath>9", 1, 2);
        said("breath < 999", 1, 0, 1, 2);
        said("up=2", 1, 2);
        said("up<2", 1, 0, 1);
        said("up>0", 1, 1, 2);
        said("said=2", 1, 2);
        said("said<2", 1, 0, 1);
        said("said>2", 1);
        said("number=1", 1, 1);
        said("number>0", 1, 1, 2);
        said("number<001", 1, 0);
        said("not spent", 2, 0, 2);
        said("not not spent", 3, 1);
        said("(spent)", 2, 1);
        CartTurns x = Check.on("person a 0 0 0 9;person b 1 1 0 9;person c 0 1 0 9;");
        Check.dueSentence(x, "settled", 1, 0);
        Check.due("without POINTS", x.said(-1), 3);
        Check.dueSentence(x, "by a", 1, 0);
        Check.due("not aslant", x.said(-1), 1);
        Check.due("not aslant", x.said(0), 2);
    }

    private static void binds() {
        said("upright or spent and number=2", 3, 0);
        said("(upright or spent) and number=1", 4, 1);
        said("number=2 and spent or upright", 3, 0);
        said("not upright or spent", 3, 1, 2);
        said("not upright and spent", 3, 1);
        said("not (upright or spent)", 4, 2);
        said("not upright and not spent", 4, 2);
        said("upright or spent or number=2", 3, 0, 1, 2);
    }

    private static void none() {
        CartTurns x = new CartTurns();
        Check.due("said(-1)", x.said(-1), -1);
        Check.due("said(0)", x.said(0), -1);
        Check.dueSentence(x, "upright", 1, 0);
        Check.due("said(-1) of nobody", x.said(-1), 0);
        Check.due("said(0) of nobody", x.said(0), -1);
    }

    private static void stays() {
        CartTurns x = lived();
        Check.dueSentence(x, "spent", 1, 0);
        Check.dueSentence(x, "upright or", -11, 1);
        Check.due("the SENTENCE stays", x.said(0), 1);
        x.hours(1);
        Check.due("it is judged anew", x.said(-1), 0);
    }
}
