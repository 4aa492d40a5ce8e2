import java.util.function.IntUnaryOperator;

/** The edges of what is told, sentence by sentence: LEAST, MEAN, SLIP, draws, BOOKS, what may be said, images. */
public final class EdgesOfTellingTest {
    private static final int[] FAR_OFF = {Integer.MIN_VALUE, -2, -1, Integer.MAX_VALUE};

    public static void main(String[] args) {
        least();
        means();
        slips();
        bytesOfSlips();
        draws();
        drawnHours();
        odds();
        books();
        booksLived();
        told();
        sentences();
        joined();
        whatMayBeSaid();
        said();
        images();
        restored();
        manyCalls();
        Check.finish("EdgesOfTellingTest");
    }

    private static void row(String call, IntUnaryOperator answer, int... want) {
        for (int what = 0; what < want.length; what++) {
            Check.due(call + " of " + what, answer.applyAsInt(what), want[what]);
        }
    }

    private static void alwaysNone(String call, int least, IntUnaryOperator answer) {
        for (int wrong : FAR_OFF) {
            Check.due(call + " of " + wrong, answer.applyAsInt(wrong), -1);
        }
        Check.due(call + " of " + least, answer.applyAsInt(least), -1);
    }

    private static void dueBytes(CartTurns x, String want) {
        row("byteAt in " + want, x::byteAt, want.chars().toArray());
        Check.due("byteAt behind " + want, x.byteAt(want.length()), -1);
    }

    private static void dueSlip(CartTurns x, int p, String want) {
        Check.due("slip(" + p + ")", x.slip(p), want.length());
        dueBytes(x, want);
    }

    private static void least() {
        Edge.of("LEAST: the PERSON who has least BREATH by what he has at most (of like ones the first).", () -> {
            CartTurns x = Check.on("person a 0 0 0 59;person b 0 1 0 60;person c 0 2 0 1;figure one 1 0;figure two 2 0;");
            Check.due("all have all", x.least(), 0);
            x.say(1, 0, 0);
            Check.due("59 of 60", x.least(), 1);
            x.say(0, 0, 0);
            Check.due("58 of 59 is less than 59 of 60", x.least(), 0);
            x.say(2, 0, 0);
            Check.due("0 of 1", x.least(), 2);
            // less BREATH in all, but more by what he has at most
            CartTurns y = Check.on("person a 0 0 0 2;person b 0 1 0 60;figure one 1 0;figure two 2 0;");
            y.say(0, 0, 0);
            Check.due("1 of 2", y.least(), 0);
            for (int k = 0; k < 15; k++) {
                y.say(1, 1, 0);
            }
            Check.due("1 of 2, 30 of 60: the first", y.least(), 0);
            y.say(1, 0, 0);
            Check.due("1 of 2, 29 of 60", y.least(), 1);
            y.say(0, 0, 0);
            Check.due("0 of 2, 29 of 60", y.least(), 0);
        });
        Edge.of("LEAST; NONE: there are no PERSONS.", () -> {
            Check.due("nobody", new CartTurns().least(), -1);
            Check.due("one", Check.on("person a 0 0 0 1;").least(), 0);
            CartTurns x = Check.on("person a 0 0 0 9;person b 1 0 0 9;person c 2 0 0 9;person d 3 0 0 9;person e 4 0 0 9;figure f 0 0;");
            x.say(4, 0, 0);
            Check.due("the last of five", x.least(), 4);
            Check.dueDowns(x, "person a 0 0 0 9;person b 1 0 0 9;person c 2 0 0 9;person d 3 0 0 9;figure f 0 0;", 5, 0);
            x.say(3, 0, 0);
            Check.due("the last of four", x.least(), 3);
            Check.due("nobody, but more", Check.on("figure f 0 0;point p 0 0 0;wall 0 0 1;").least(), -1);
        });
    }

    private static void dueMean(CartTurns x, int above, int below) {
        Check.due("above", x.mean(0), above);
        Check.due("below", x.mean(1), below);
    }

    private static void means() {
        Edge.of("All fractions are told by two numbers: 0 above, 1 below, in least terms.", () -> {
            dueMean(Check.on("person a 0 0 0 60;person b 1 0 0 60;person c 2 0 0 60;person d 3 0 0 60;person e 4 0 0 60;"), 60, 1);
            dueMean(Check.on("person a 0 0 0 1;person b 1 0 0 1;person c 2 0 0 1;person d 3 0 0 1;person e 4 0 0 2;"), 6, 5);
            dueMean(Check.on("person a 0 0 0 1;person b 1 0 0 1;person c 2 0 0 2;person d 3 0 0 2;"), 3, 2);
            dueMean(Check.on("person a 0 0 0 1;"), 1, 1);
            CartTurns x = Check.on("person a 0 0 0 1;person b 0 1 0 1;figure f 0 0;");
            x.say(0, 0, 0);
            dueMean(x, 1, 2);
            x.say(1, 0, 0);
            dueMean(x, 0, 1);
        });
        Edge.of("MEAN. NoSuchElementException: there are no PERSONS, no such ones.", () -> {
            Check.dueThrow("mean(0) of nobody", () -> new CartTurns().mean(0));
            Check.dueThrow("mean(1) of nobody", () -> new CartTurns().mean(1));
            CartTurns x = Check.on("person a 0 0 0 1;");
            Check.dueThrow("mean(2)", () -> x.mean(2));
            for (int wrong : FAR_OFF) {
                Check.dueThrow("mean(" + wrong + ")", () -> x.mean(wrong));
            }
        });
    }

    private static void slips() {
        Edge.of("SLIP of a PERSON: his NAME, ' at ', X, a blank, Y, ' up ' and UP as digits; ' spent' behind it, if he has no BREATH.", () -> {
            CartTurns x = Check.on("downs 9 9;person a 0 8 3 2;person zyxwvut 8 0 0 1;person az 4 4 1 9;figure f 1 0;");
            dueSlip(x, 0, "a at 0 8 up 3");
            dueSlip(x, 1, "zyxwvut at 8 0 up 0");
            dueSlip(x, 2, "az at 4 4 up 1");
            x.say(0, 0, 0);
            dueSlip(x, 0, "a at 0 8 up 0");
            x.say(0, 0, 0);
            dueSlip(x, 0, "a at 0 8 up 1 spent");
            x.say(1, 0, 0);
            dueSlip(x, 1, "zyxwvut at 8 0 up 1 spent");
            x.hours(1);
            dueSlip(x, 1, "zyxwvut at 8 0 up 1");
        });
        Edge.of("SLIP of a PERSON: how many bytes; NONE: no such one.", () -> {
            CartTurns x = Check.on("person a 0 0 0 1;");
            alwaysNone("slip", 1, x::slip);
            Check.due("slip(0)", x.slip(0), 13);
            Check.due("a new slip(0)", new CartTurns().slip(0), -1);
        });
    }

    private static void bytesOfSlips() {
        Edge.of("Byte i of the latest SLIP; NONE: none such.", () -> {
            CartTurns x = Check.on("person a 0 0 0 1;person bcdefgh 1 1 1 1;");
            Check.due("ahead of any", x.byteAt(0), -1);
            dueSlip(x, 1, "bcdefgh at 1 1 up 1");
            dueSlip(x, 0, "a at 0 0 up 0");
            Check.due("a byte of the longer one ahead", x.byteAt(18), -1);
            alwaysNone("byteAt", 13, x::byteAt);
            Check.due("slip(2)", x.slip(2), -1);
            dueBytes(x, "a at 0 0 up 0");
            Check.dueDowns(x, "", 0, 0);
            dueBytes(x, "a at 0 0 up 0");
        });
    }

    /** What DRAWN does, told by the draws themselves; it is lived by the acts of the face. */
    private static final class Hand {
        private final CartTurns x;
        private long seed;

        Hand(CartTurns x, int seed) {
            this.x = x;
            this.seed = seed;
        }

        private int draw(int n) {
            // what is left of a long is what an int that wraps holds
            seed = (seed * 1103515245L + 12345L) & 0xffffffffL;
            return (int) ((seed >> 8) % n);
        }

        void hour() {
            for (int p = 0; p < x.count(3); p++) {
                int side = draw(8);
                if (side < 4) {
                    if (x.count(2) > 0) {
                        x.say(p, draw(x.count(2)), side);
                    }
                } else if (side < 6) {
                    x.kick(p, draw(4));
                } else if (side == 6) {
                    x.rest(p);
                }
            }
            x.hours(1);
        }
    }

    private static void same(CartTurns x, CartTurns y) {
        row("now", x::now, y.now(0), y.now(1), y.now(2), y.now(3), y.now(4), y.now(5), y.now(6), y.now(7));
        for (int p = 0; p < y.count(3); p++) {
            int one = p;
            row("person " + p, what -> x.person(one, what), y.person(p, 0), y.person(p, 1), y.person(p, 2), y.person(p, 3),
                y.person(p, 4), y.person(p, 5), y.person(p, 6));
        }
    }

    private static void asByHand(String downs, int hours, int seed) {
        CartTurns x = Check.on(downs);
        CartTurns y = Check.on(downs);
        Check.due("drawn(" + hours + ", " + seed + ")", x.drawn(hours, seed), hours);
        Hand hand = new Hand(y, seed);
        for (int k = 0; k < hours; k++) {
            hand.hour();
        }
        same(x, y);
    }

    private static final String FULL = "downs 4 4;wall 1 1 9;wall 2 2 9;person a 0 0 0 60;person b 3 0 1 20;person c 0 3 2 9;"
        + "person d 3 3 3 4;person e 1 2 0 1;figure f 1 1;figure g 2 2;figure h 3 0;figure i 0 3;figure k 7 5;figure l 0 0;"
        + "point p 1 0 1;point q 2 0 2;point r 3 2 0;";

    private static void draws() {
        Edge.of("for each draw of n x becomes x * 1103515245 + 12345 (an int, wrapping), the draw is (x >>> 8) % n:", () -> {
            for (int seed : new int[] {0, 1, -1, 2, Integer.MAX_VALUE, Integer.MIN_VALUE, 0x7fffff00, 0xff}) {
                asByHand(FULL, 12, seed);
            }
            // from 0: 12345 >>> 8 is 48, so the draw of 8 is 0: to the east
            CartTurns x = Check.on("person a 0 0 0 9;figure f 0 1;");
            Check.due("drawn(1, 0)", x.drawn(1, 0), 1);
            row("person", what -> x.person(0, what), 1, 0, 0, 9, 9, 0, 1);
        });
        Edge.of("below 4: a draw of all FIGURES (none: no draw): he SAYS it to that SIDE;", () -> {
            asByHand("downs 3 3;person a 0 0 0 60;person b 2 2 1 60;wall 1 0 9;wall 0 1 9;wall 1 2 9;wall 2 1 9;", 60, 5);
            asByHand("downs 3 3;person a 0 0 0 60;person b 2 2 1 60;figure f 1 0;", 60, 5);
            asByHand("downs 3 3;person a 1 1 0 60;figure f 0 1;", 60, -5);
            CartTurns none = new CartTurns();
            Check.due("without PERSONS", none.drawn(60, 9), 60);
            row("now", none::now, 60, 0, 0, 0, 0, 0, 0, 0);
        });
        Edge.of("4 or 5: a draw of 4: he KICKS there; 6: he RESTS (each, if it can be); then the HOUR.", () -> {
            asByHand("downs 3 3;person a 1 1 0 3;wall 1 0 9;wall 0 1 9;wall 1 2 9;wall 2 1 9;", 60, 31);
            asByHand("downs 3 3;person a 1 1 0 60;figure f 7 0;wall 1 0 9;", 60, 31);
            asByHand("downs 3 3;person a 1 1 0 1;figure f 7 5;", 60, 31);
        });
    }

    private static void drawnHours() {
        Edge.of("n (1 to 60) HOURS DRAWN by a seed: how many went by; NONE: not as told.", () -> {
            CartTurns x = Check.on(FULL);
            Check.due("drawn(0, 1)", x.drawn(0, 1), -1);
            alwaysNone("drawn", 61, n -> x.drawn(n, 1));
            same(x, Check.on(FULL));
            Check.due("drawn(1, 1)", x.drawn(1, 1), 1);
            Check.due("HOUR", x.now(0), 1);
            for (int k = 0; k < 6; k++) {
                Check.due("drawn(60, 1)", x.drawn(60, 1), 60);
            }
            Check.due("drawn(38, 1)", x.drawn(38, 1), 38);
            Check.due("the last HOUR", x.now(0), 399);
            Check.due("drawn(2, 1) has one left", x.drawn(2, 1), 1);
            int said = x.now(2) + x.now(3);
            Check.due("none are left", x.drawn(60, 1), 0);
            Check.due("nobody acts then", x.now(2) + x.now(3), said);
            Check.due("not as told all the same", x.drawn(61, 1), -1);
            Check.due("undo()", x.undo(), 7);
            Check.due("the last HOUR again", x.now(0), 399);
        });
    }

    private static int oddsByHand(String downs, int ahead, int p, int q, int n, int seed) {
        int came = 0;
        for (int k = 0; k < n; k++) {
            CartTurns y = on(downs, ahead);
            Hand hand = new Hand(y, seed + k);
            for (int hour = 0; hour < 20 && y.now(0) < 400; hour++) {
                hand.hour();
            }
            came += y.person(p, 5) >> q & 1;
        }
        return came;
    }

    private static CartTurns on(String downs, int hours) {
        CartTurns x = Check.on(downs);
        for (int left = hours; left > 0; left -= 60) {
            x.hours(Math.min(60, left));
        }
        return x;
    }

    private static void odds() {
        Edge.of("Of n (1 to 30) seeds x, x and 1, .. by how many a POINT came up for a PERSON behind 20 HOURS DRAWN from now on; NONE: no such ones.", () -> {
            for (int seed : new int[] {0, -1, Integer.MAX_VALUE, Integer.MAX_VALUE - 15}) {
                CartTurns x = Check.on(FULL);
                Check.due("odds of 30", x.odds(0, 0, 30, seed), oddsByHand(FULL, 0, 0, 0, 30, seed));
                Check.due("odds of 1", x.odds(1, 1, 1, seed), oddsByHand(FULL, 0, 1, 1, 1, seed));
                same(x, Check.on(FULL));
                Check.due("undo()", x.undo(), -1);
            }
            CartTurns x = Check.on(FULL);
            Check.due("odds of 0", x.odds(0, 0, 0, 1), -1);
            alwaysNone("odds, seeds", 31, n -> x.odds(0, 0, n, 1));
            alwaysNone("odds, PERSON", 5, p -> x.odds(p, 0, 1, 1));
            alwaysNone("odds, POINT", 3, q -> x.odds(0, q, 1, 1));
        });
        Edge.of("20 HOURS DRAWN from now on", () -> {
            String meets = "downs 3 3;person a 0 0 0 60;figure f 1 1;point p 1 0 1;point q 0 0 0;point r 2 2 0;";
            // near the end of all HOURS only those that are left are drawn
            for (int ahead : new int[] {0, 379, 380, 381, 390, 399, 400}) {
                CartTurns x = on(meets, ahead);
                Check.due("odds at " + ahead, x.odds(0, 0, 30, 4), oddsByHand(meets, ahead, 0, 0, 30, 4));
                Check.due("odds at " + ahead, x.odds(0, 2, 30, 4), oddsByHand(meets, ahead, 0, 2, 30, 4));
                Check.due("it came up already", x.odds(0, 1, 30, 4), 30);
                Check.due("HOUR", x.now(0), ahead);
            }
        });
    }

    private static final String LIVED = "downs 4 2;person a 0 0 0 9;person b 3 0 1 2;figure f 1 1;figure g 0 0;figure far 0 5;"
        + "wall 0 1 1;point p 1 0 1;point q 0 0 0;";

    private static void books() {
        Edge.of("The tape is a BOOK: it is judged, all staying as it is (lives 0), or lived as far as it is not WRONG (1):", () -> {
            CartTurns x = Check.on(LIVED);
            Check.dueBook(x, "a says f east;b says g east;a kicks south;hour 5;", 0, 2, 0);
            same(x, Check.on(LIVED));
            Check.due("undo()", x.undo(), -1);
            Check.dueBook(x, "a says f east;b says g east;a kicks south;hour 5;", 1, 2, 0);
            row("now", x::now, 0, 1, 2, 0, 0, 1, 0, 8);
            Check.due("X", x.person(0, 0), 1);
            // what the BOOK tells is judged by what it made of the DOWNS ahead
            Check.dueBook(x, "a says f west;a kicks south;a says f south;", 0, -1, 0);
            Check.dueBook(x, "a says f west;a says f south;", 0, 1, 0);
        });
        Edge.of("the LINE that is WRONG; NONE: none; -2 less the place of a FAULT; -1000: another lives (the tape stays).", () -> {
            CartTurns x = Check.on(LIVED);
            Check.dueBook(x, "", 0, -1, 0);
            Check.dueBook(x, "a rests;", 0, 0, 0);
            Check.dueBook(x, "hour 1;".repeat(39) + "a rests;", 0, 39, 0);
            Check.dueBook(x, "hour 1;".repeat(40), 0, -1, 0);
            Check.dueBook(x, "?", 0, -2, 1);
            Check.dueBook(x, " ".repeat(401), 0, -402, 1);
            Check.dueBook(x, "a rests;?", 0, -10, 1);
            Check.put(x, "hour 3;");
            for (int lives : new int[] {Integer.MIN_VALUE, -1, 2, Integer.MAX_VALUE}) {
                Check.due("book(" + lives + ")", x.book(lives), -1000);
                Check.due("the tape stays", x.count(5), 7);
            }
            Check.due("book(1)", x.book(1), -1);
            Check.due("HOUR", x.now(0), 3);
            Check.due("the tape", x.count(5), 0);
        });
    }

    private static void booksLived() {
        Edge.of("lived as far as it is not WRONG", () -> {
            CartTurns x = Check.on(LIVED);
            Check.dueBook(x, "a rests;hour 5;", 1, 0, 0);
            same(x, Check.on(LIVED));
            Check.dueBook(x, "hour 5;a", 1, -10, 1);
            same(x, Check.on(LIVED));
            Check.dueBook(x, "hour 60;hour 60;hour 60;hour 60;hour 60;hour 60;hour 41;a says f east;", 1, 6, 0);
            Check.due("HOUR", x.now(0), 360);
            Check.due("X", x.person(0, 0), 0);
            Check.dueBook(x, "hour 40;a says f east;", 1, -1, 0);
            Check.due("HOUR", x.now(0), 400);
            Check.due("X", x.person(0, 0), 1);
        });
    }

    private static void reason(String book, int line, int why, int lines, int hour, int settled) {
        CartTurns x = Check.on(LIVED);
        Check.dueBook(x, book, 0, line, 0);
        row("told of " + book, x::told, why, lines, hour, settled, -1);
    }

    private static void told() {
        Edge.of("0 why it was WRONG (0: it was not; 1 to 4 as for saying, 11, 12 kicking, 21 resting; 31: fewer HOURS are left),", () -> {
            reason("", -1, 0, 0, 0, 0);
            reason("hour 1;a says f east;", -1, 0, 2, 1, 1);
            reason("b says f west;b says g east;", 1, 1, 1, 0, 0);
            reason("a says f north;", 0, 2, 0, 0, 0);
            reason("a says f south;", 0, 3, 0, 0, 0);
            reason("a says f east;a says f east;hour 2;a says f east;", 3, 4, 3, 2, 1);
            reason("b says f west;b kicks east;", 1, 11, 1, 0, 0);
            reason("a kicks north;", 0, 12, 0, 0, 0);
            reason("a kicks south;a kicks south;", 1, 12, 1, 0, 0);
            reason("hour 60;a rests;", 1, 21, 1, 60, 0);
            reason("hour 60;".repeat(6) + "hour 40;hour 1;", 7, 31, 7, 400, 0);
            reason("hour 60;".repeat(6) + "hour 41;", 6, 31, 6, 360, 0);
            reason("hour 60;".repeat(6) + "hour 40;", -1, 0, 7, 400, 0);
        });
        Edge.of("1 LINES that are not, 2 the HOUR then, 3 who is settled then, as bits. NONE: another what, or ahead of any.", () -> {
            CartTurns x = Check.on(LIVED);
            row("told ahead of any", x::told, -1, -1, -1, -1);
            Check.dueBook(x, "a", 0, -3, 1);
            x.book(2);
            row("told ahead of any that had no FAULT", x::told, -1, -1, -1, -1);
            Check.dueBook(x, "hour 4;a says f east;a rests;a rests;", 1, 3, 0);
            row("told", x::told, 21, 3, 4, 1, -1);
            alwaysNone("told", 4, x::told);
        });
        Edge.of("Of the latest book() that had no FAULT (and was not -1000):", () -> {
            CartTurns x = Check.on(LIVED);
            Check.dueBook(x, "hour 4;a rests;", 1, 1, 0);
            Check.dueBook(x, "hour 7;a", 1, -10, 1);
            row("told behind a FAULT", x::told, 21, 1, 4, 0, -1);
            Check.due("book(2)", x.book(2), -1000);
            row("told behind -1000", x::told, 21, 1, 4, 0, -1);
            x.hours(3);
            x.undo();
            Check.dueDowns(x, "", 0, 0);
            row("told of new DOWNS", x::told, 21, 1, 4, 0, -1);
            Check.dueBook(x, "", 0, -1, 0);
            row("told of an empty one", x::told, 0, 0, 0, 0, -1);
        });
    }

    private static void sentences() {
        Edge.of("The tape is the SENTENCE now: how many ONES (each not, bracket and other one); -1 less the place of a FAULT: it stays.", () -> {
            CartTurns x = Check.on(LIVED);
            Check.dueSentence(x, "number=1", 1, 0);
            Check.dueSentence(x, "not number=1", 2, 0);
            Check.dueSentence(x, "(number=1)", 2, 0);
            Check.dueSentence(x, "not(number=1 or number=0)", 4, 0);
            Check.due("nobody", x.said(-1), 0);
            Check.dueSentence(x, "", -1, 1);
            Check.dueSentence(x, "number=0 or", -12, 1);
            Check.dueSentence(x, "number=0 or has z", -17, 3);
            Check.due("it stays", x.said(-1), 0);
            Check.dueSentence(x, "not number=1", 2, 0);
            Check.due("the other one", x.said(0), 0);
            Check.dueSentence(x, "number=1", 1, 0);
            Check.due("another one", x.said(0), 1);
            Check.due("nothing of the longer one ahead", x.said(-1), 1);
        });
    }

    /** All that a SENTENCE may hold is reckoned, the last ONE, too. */
    private static void dueJoined(String sentence, int... who) {
        CartTurns x = Check.on("person a 0 0 0 1;person b 1 0 1 1;person c 2 0 2 1;");
        Check.put(x, sentence);
        Check.due("ONES of " + sentence, x.sentence() > 0, true);
        Check.due("how many: " + sentence, x.said(-1), who.length);
        row(sentence, x::said, who);
    }

    private static void joined() {
        Edge.of("COND: ALL { 'or' ALL }. ALL: ONE { 'and' ONE }.", () -> {
            dueJoined("number=0 and up=0", 0);
            dueJoined("number=0 and up=1");
            dueJoined("number=0 or up=1", 0, 1);
            dueJoined("number=0 or number=1 and up=2", 0);
            dueJoined("number=1 and up=2 or number=0", 0);
            dueJoined("(number=0 or number=1)and up=1", 1);
            dueJoined("not number=0 and up=1", 1);
            dueJoined("not(number=0 and up=1)", 0, 1, 2);
            dueJoined("not number=0 or up=0", 0, 1, 2);
            dueJoined("not not up=1", 1);
            dueJoined("not ".repeat(7) + "up=1", 0, 2);
            dueJoined("(".repeat(7) + "up=1" + ")".repeat(7), 1);
            dueJoined("up=9 or ".repeat(19) + "up=2", 2);
            dueJoined("up<9 and ".repeat(19) + "up=2", 2);
            dueJoined("up<9 and up=0 or ".repeat(9) + "up<9 and up=2", 0, 2);
        });
    }

    /** Of one PERSON whose numbers are told: is it said of him? */
    private static void dueSaid(String sentence, String downs, boolean want) {
        CartTurns x = Check.on(downs);
        Check.put(x, sentence);
        Check.due(sentence + " of " + downs, x.sentence() > 0, true);
        Check.due(sentence + " of " + downs, x.said(0) == 0, want);
    }

    private static void whatMayBeSaid() {
        Edge.of("'upright' (UP is 0) | 'spent' (he has no BREATH)", () -> {
            for (int up = 0; up < 4; up++) {
                dueSaid("upright", "person a 0 0 " + up + " 1;", up == 0);
            }
            CartTurns x = Check.on("person a 0 0 3 2;figure f 1 0;");
            Check.dueSentence(x, "upright or spent", 2, 0);
            Check.due("UP 3, BREATH 2", x.said(-1), 0);
            x.say(0, 0, 0);
            Check.due("UP 0, BREATH 1", x.said(-1), 1);
            Check.dueSentence(x, "spent", 1, 0);
            Check.due("BREATH 1", x.said(-1), 0);
            x.say(0, 0, 0);
            Check.due("BREATH 0", x.said(-1), 1);
        });
        Edge.of("'settled' (every POINT came up for him; there are none: he is)", () -> {
            dueSaid("settled", "person a 0 0 0 1;", true);
            dueSaid("settled", "person a 0 0 0 1;point p 0 0 0;", true);
            dueSaid("settled", "person a 0 0 0 1;point p 0 0 1;", false);
            dueSaid("settled", "person a 0 0 0 1;point p 0 0 0;point q 0 0 0;point r 0 0 0;point s 0 0 0;point t 0 0 0;", true);
            dueSaid("settled", "person a 0 0 0 1;point p 0 0 0;point q 0 0 0;point r 0 0 0;point s 0 0 0;point t 0 0 1;", false);
        });
        Edge.of("'has' POINT (it came up for him)", () -> {
            dueSaid("has t", "person a 0 0 0 1;point p 1 0 0;point q 1 0 0;point r 1 0 0;point s 1 0 0;point t 0 0 0;", true);
            dueSaid("has p", "person a 0 0 0 1;point p 1 0 0;point q 0 0 0;", false);
            dueSaid("has p", "person a 0 0 0 1;point p 0 0 0;person b 1 0 0 1;", true);
            dueSaid("has p", "person a 1 0 0 1;point p 0 0 0;person b 0 0 0 1;", false);
        });
        Edge.of("'by' PERSON (he is in a cell next to his; not himself)", () -> {
            dueSaid("by a", "person a 2 2 0 1;", false);
            for (int cell = 0; cell < 25; cell++) {
                int far = Math.abs(cell % 5 - 2) + Math.abs(cell / 5 - 2);
                if (far > 0) {
                    dueSaid("by b", "person a 2 2 0 1;person b " + cell % 5 + " " + cell / 5 + " 0 1;", far == 1);
                }
            }
            // no cell is next to one beyond the rim
            dueSaid("by b", "downs 4 4;person a 3 0 0 1;person b 0 1 0 1;", false);
            dueSaid("by b", "downs 9 9;person a 8 0 0 1;person b 0 1 0 1;", false);
        });
        Edge.of("(how many FIGURES he said so far; his number). SIGN: < = >.", () -> {
            String one = "person a 0 0 2 5;";
            String[] words = {"breath", "up", "said", "number"};
            int[] is = {5, 2, 0, 0};
            for (int k = 0; k < words.length; k++) {
                for (int n : new int[] {0, 1, 2, 3, 4, 5, 6, 60, 999}) {
                    dueSaid(words[k] + "<" + n, one, is[k] < n);
                    dueSaid(words[k] + "=" + n, one, is[k] == n);
                    dueSaid(words[k] + ">" + n, one, is[k] > n);
                }
            }
            CartTurns x = Check.on("person a 0 0 0 9;person b 1 1 0 9;figure f 0 0;wall 0 1 9;");
            Check.dueSentence(x, "said=1", 1, 0);
            x.kick(0, 1);
            x.say(1, 0, 0);
            Check.due("who said", x.said(0), 1);
            x.undo();
            Check.due("it is undone", x.said(-1), 0);
        });
    }

    private static void said() {
        Edge.of("PERSONS of whom it may be said: how many (k NONE), or the k-th. NONE: there is no SENTENCE, none such.", () -> {
            CartTurns x = Check.on("person a 0 0 0 1;person b 1 0 1 1;person c 2 0 0 1;person d 3 0 1 1;person e 4 0 0 1;");
            for (int k = -2; k < 6; k++) {
                Check.due("said(" + k + ") without a SENTENCE", x.said(k), -1);
            }
            Check.dueSentence(x, "upright", 1, 0);
            row("said", x::said, 0, 2, 4, -1);
            Check.due("how many", x.said(-1), 3);
            Check.due("said(-2)", x.said(-2), -1);
            Check.due("said(min)", x.said(Integer.MIN_VALUE), -1);
            Check.due("said(max)", x.said(Integer.MAX_VALUE), -1);
            Check.dueSentence(x, "number<999", 1, 0);
            row("said of all", x::said, 0, 1, 2, 3, 4, -1);
            Check.due("all", x.said(-1), 5);
            Check.dueSentence(x, "number>4", 1, 0);
            row("said of nobody", x::said, -1, -1);
            Check.due("nobody", x.said(-1), 0);
            CartTurns none = new CartTurns();
            Check.dueSentence(none, "settled", 1, 0);
            Check.due("without PERSONS", none.said(-1), 0);
            Check.due("without PERSONS", none.said(0), -1);
        });
    }

    private static void images() {
        Edge.of("DOWNS, all that is so and the SENTENCE are kept in place k (0, 1): true; false: no such one.", () -> {
            CartTurns x = Check.on(LIVED);
            for (int k : new int[] {Integer.MIN_VALUE, -1, 2, Integer.MAX_VALUE}) {
                Check.due("image(" + k + ")", x.image(k), false);
            }
            Check.due("restore(0)", x.restore(0), false);
            Check.due("restore(1)", x.restore(1), false);
            Check.due("image(0)", x.image(0), true);
            x.hours(1);
            Check.due("image(1)", x.image(1), true);
            x.hours(1);
            Check.due("an image leaves what can be undone", x.undo(), 1);
            Check.due("restore(0)", x.restore(0), true);
            Check.due("HOUR", x.now(0), 0);
            Check.due("restore(1)", x.restore(1), true);
            Check.due("HOUR", x.now(0), 1);
            Check.due("image(1) is kept", x.restore(1), true);
        });
    }

    private static void restored() {
        Edge.of("They are as kept in place k (the tape, and what other calls told last, stays; nothing can be undone): true; false: no such one, or nothing is kept there.", () -> {
            CartTurns x = Check.on(LIVED);
            for (int k : new int[] {Integer.MIN_VALUE, -1, 0, 1, 2, Integer.MAX_VALUE}) {
                Check.due("restore(" + k + ")", x.restore(k), false);
            }
            x.hours(1);
            Check.due("what is refused leaves what can be undone", x.restore(0), false);
            Check.due("undo()", x.undo(), 0);
            Check.dueSentence(x, "number=1", 1, 0);
            x.image(0);
            x.kick(0, 1);
            x.say(0, 0, 0);
            x.hours(3);
            Check.dueSentence(x, "?", -1, 1);
            x.feed(1, 1, 1, 1, 1);
            Check.due("restore(1)", x.restore(1), false);
            Check.due("HOUR", x.now(0), 3);
            Check.due("restore(0)", x.restore(0), true);
            same(x, Check.on(LIVED));
            Check.due("the wall", x.cell(0, 1, 0), 1);
            Check.due("said(0)", x.said(0), 1);
            Check.due("the tape", x.count(5), 20);
            Check.due("fault()", x.fault(), 1);
            Check.due("undo()", x.undo(), -1);
            x.hours(2);
            Check.due("what came then is undone", x.undo(), 0);
            Check.due("HOUR", x.now(0), 0);
        });
    }

    private static void manyCalls() {
        Edge.of("An object is used for at most 512 calls after it has been made;", () -> {
            CartTurns x = Check.on(FULL);
            for (int k = 0; k < 45; k++) {
                Check.due("drawn", x.drawn(1, k), 1);
                Check.due("undo", x.undo() >= 0, true);
                Check.due("odds", x.odds(0, 0, 30, k) >= 0, true);
                Check.due("sees", x.sees(0) > 0, true);
                Check.due("way", x.way(0, 0) >= -1, true);
                Check.due("both", x.both(0, 1, 0) >= -1, true);
                Check.due("undoes", x.undoes(4) > 0, true);
                Check.due("image", x.image(k % 2), true);
                Check.due("restore", x.restore(k % 2), true);
                Check.due("hours", x.hours(8), 8);
            }
            Check.due("HOUR", x.now(0), 360);
        });
    }
}
