/** Promises 26 to 31: LEAST, MEAN, SLIP, DRAWN, odds. */
public final class TellingTest {
    public static void main(String[] args) {
        least();
        mean();
        slip();
        drawn();
        drawnWithoutFigures();
        odds();
        Check.finish("TellingTest");
    }

    private static void least() {
        CartTurns x = Check.on("person a 0 0 0 10;person b 0 2 0 20;person c 0 4 0 60;figure one 1 0;figure nine 7 2;");
        Check.due("all alike", x.least(), 0);
        x.say(1, 0, 0);
        Check.due("19 of 20", x.least(), 1);
        x.say(0, 0, 0);
        Check.due("9 of 10", x.least(), 0);
        x.say(1, 0, 0);
        Check.due("like ones: the first", x.least(), 0);
        x.say(2, 1, 0);
        Check.due("51 of 60", x.least(), 2);
        Check.due("nobody", new CartTurns().least(), -1);
    }

    private static void dueMean(CartTurns x, int above, int below) {
        Check.due("mean(0)", x.mean(0), above);
        Check.due("mean(1)", x.mean(1), below);
    }

    private static void mean() {
        CartTurns x = Check.on("person a 0 0 0 1;person b 0 1 0 2;person c 0 2 0 4;wall 1 0 9;wall 1 1 9;wall 1 2 9;");
        dueMean(x, 7, 3);
        x.kick(2, 0);
        dueMean(x, 2, 1);
        x.kick(0, 0);
        x.kick(1, 0);
        x.kick(1, 0);
        x.kick(2, 0);
        x.kick(2, 0);
        dueMean(x, 1, 3);
        x.kick(2, 0);
        dueMean(x, 0, 1);
        Check.dueThrow("mean(2)", () -> x.mean(2));
        Check.dueThrow("mean(-1)", () -> x.mean(-1));
        Check.dueThrow("mean(0) of nobody", () -> new CartTurns().mean(0));
    }

    private static void dueSlip(CartTurns x, int p, String want) {
        Check.due("slip(" + p + ")", x.slip(p), want.length());
        dueBytes(x, want);
    }

    private static void dueBytes(CartTurns x, String want) {
        for (int i = 0; i < want.length(); i++) {
            Check.due("byteAt(" + i + ") of " + want, x.byteAt(i), want.charAt(i));
        }
        Check.due("byteAt(-1)", x.byteAt(-1), -1);
        Check.due("byteAt(" + want.length() + ")", x.byteAt(want.length()), -1);
    }

    private static void slip() {
        CartTurns x = Check.on("downs 9 9;person abcdezz 8 7 3 1;person z 0 1 2 60;wall 8 8 1;");
        dueBytes(x, "");
        dueSlip(x, 0, "abcdezz at 8 7 up 3");
        x.kick(0, 1);
        dueBytes(x, "abcdezz at 8 7 up 3");
        dueSlip(x, 0, "abcdezz at 8 7 up 3 spent");
        dueSlip(x, 1, "z at 0 1 up 2");
        Check.due("slip(2)", x.slip(2), -1);
        Check.due("slip(-1)", x.slip(-1), -1);
        Check.dueDowns(x, "", 0, 0);
        dueBytes(x, "z at 0 1 up 2");
    }

    private static int seed;

    private static int draw(int n) {
        seed = seed * 1103515245 + 12345;
        return (seed >>> 8) % n;
    }

    /** The draws by the class's own acts: it must come to the same. */
    private static void drawnByHand(CartTurns x, int hours, int from) {
        seed = from;
        for (int k = 0; k < hours; k++) {
            for (int p = 0; p < x.count(3); p++) {
                int act = draw(8);
                if (act < 4 && x.count(2) > 0) {
                    x.say(p, draw(x.count(2)), act);
                } else if (act == 4 || act == 5) {
                    x.kick(p, draw(4));
                } else if (act == 6) {
                    x.rest(p);
                }
            }
            x.hours(1);
        }
    }

    private static void same(CartTurns x, CartTurns y) {
        for (int what = 0; what < 8; what++) {
            Check.due("now(" + what + ")", x.now(what), y.now(what));
        }
        for (int p = 0; p < x.count(3); p++) {
            for (int what = 0; what < 7; what++) {
                Check.due("person(" + p + ", " + what + ")", x.person(p, what), y.person(p, what));
            }
        }
    }

    private static final String LIVELY = "downs 4 4;wall 1 1 3;wall 2 2 3;wall 0 3 2;person a 0 0 0 9;person b 3 3 1 5;"
        + "person c 1 2 2 30;figure f 1 1;figure g 2 2;figure h 3 0;point p 2 1 1;point q 3 0 2;";

    private static void drawn() {
        for (int from : new int[] {0, 1, -1, 12345, Integer.MIN_VALUE, Integer.MAX_VALUE}) {
            CartTurns x = Check.on(LIVELY);
            CartTurns y = Check.on(LIVELY);
            Check.due("drawn(15, " + from + ")", x.drawn(15, from), 15);
            drawnByHand(y, 15, from);
            same(x, y);
        }
        CartTurns x = Check.on(LIVELY);
        for (int wrong : new int[] {0, 61, -1, Integer.MIN_VALUE}) {
            Check.due("drawn(" + wrong + ", 1)", x.drawn(wrong, 1), -1);
        }
        Check.due("drawn(1, 3)", x.drawn(1, 3), 1);
        Check.due("undo()", x.undo(), 0);
        for (int k = 0; k < 6; k++) {
            Check.due("drawn(60, 3)", x.drawn(60, 3), 60);
        }
        Check.due("the last ones", x.drawn(60, 3), 40);
        Check.due("none are left", x.drawn(60, 3), 0);
        Check.due("undo()", x.undo(), 6);
        Check.due("HOUR", x.now(0), 360);
    }

    private static void drawnWithoutFigures() {
        CartTurns x = Check.on("person a 0 0 0 9;person b 2 2 0 9;wall 1 0 9;wall 2 1 9;");
        CartTurns y = Check.on("person a 0 0 0 9;person b 2 2 0 9;wall 1 0 9;wall 2 1 9;");
        Check.due("drawn(40, 7)", x.drawn(40, 7), 40);
        drawnByHand(y, 40, 7);
        same(x, y);
        Check.due("some walls were kicked", x.now(3) > 0, true);
    }

    private static void odds() {
        for (int p = 0; p < 3; p++) {
            for (int q = 0; q < 2; q++) {
                CartTurns x = Check.on(LIVELY);
                int came = 0;
                for (int k = 0; k < 30; k++) {
                    CartTurns y = Check.on(LIVELY);
                    drawnByHand(y, 20, Integer.MAX_VALUE - 3 + k);
                    came += y.person(p, 5) >> q & 1;
                }
                Check.due("odds(" + p + ", " + q + ", 30, ..)", x.odds(p, q, 30, Integer.MAX_VALUE - 3), came);
                same(x, Check.on(LIVELY));
                Check.due("undo()", x.undo(), -1);
            }
        }
        CartTurns x = Check.on("person a 0 0 0 9;point p 0 0 0;point q 1 1 1;");
        Check.due("it came up already", x.odds(0, 0, 30, 9), 30);
        Check.due("never", x.odds(0, 1, 30, 9), 0);
        Check.due("one seed", x.odds(0, 0, 1, 9), 1);
        Check.due("odds of 0", x.odds(0, 0, 0, 9), -1);
        Check.due("odds of 31", x.odds(0, 0, 31, 9), -1);
        Check.due("no such PERSON", x.odds(1, 0, 3, 9), -1);
        Check.due("no such POINT", x.odds(0, 2, 3, 9), -1);
        for (int k = 0; k < 7; k++) {
            x.hours(60);
        }
        Check.due("no HOURS are left", x.odds(0, 0, 3, 9), 3);
    }
}
