import java.util.function.IntUnaryOperator;

/** The edges of acts, sentence by sentence: the tape, what is so, saying, kicking, resting, HOURS, undoing. */
public final class EdgesOfActsTest {
    private static final int[] FAR_OFF = {Integer.MIN_VALUE, -2, -1, Integer.MAX_VALUE};
    private static final int[] STEP_X = {1, 0, -1, 0};
    private static final int[] STEP_Y = {0, 1, 0, -1};

    public static void main(String[] args) {
        aNewObject();
        tape();
        newDowns();
        latestFault();
        personsAndFigures();
        pointsAndCells();
        now();
        counts();
        saying();
        barred();
        pointsComingUp();
        kicking();
        resting();
        hours();
        undoing();
        undoingBooks();
        could();
        Check.finish("EdgesOfActsTest");
    }

    private static void row(String call, IntUnaryOperator answer, int... want) {
        for (int what = 0; what < want.length; what++) {
            Check.due(call + " of " + what, answer.applyAsInt(what), want[what]);
        }
    }

    private static void alwaysNone(String call, int least, IntUnaryOperator answer) {
        for (int wrong : FAR_OFF) {
            Check.due(call + " of " + wrong, answer.applyAsInt(wrong), -1);
        }
        Check.due(call + " of " + least, answer.applyAsInt(least), -1);
    }

    private static void alwaysThrows(String call, int least, IntUnaryOperator answer) {
        for (int wrong : FAR_OFF) {
            Check.dueThrow(call + " of " + wrong, () -> answer.applyAsInt(wrong));
        }
        Check.dueThrow(call + " of " + least, () -> answer.applyAsInt(least));
    }

    private static void aNewObject() {
        Edge.of("`CartTurns()`: DOWNS of 6 by 6 without anything; an empty tape.", () -> {
            CartTurns x = new CartTurns();
            row("count", x::count, 6, 6, 0, 0, 0, 0);
            row("now", x::now, 0, 0, 0, 0, 0, 0, 0, 0);
            for (int k = 0; k < 36; k++) {
                int cell = k;
                row("cell", what -> x.cell(cell % 6, cell / 6, what), 0, -1, 0);
            }
            Check.due("cell(6, 5, 0)", x.cell(6, 5, 0), -1);
            Check.due("cell(5, 6, 0)", x.cell(5, 6, 0), -1);
            Check.due("end(0)", x.end(0), true);
            Check.due("end(1)", x.end(1), false);
            Check.due("said(-1)", x.said(-1), -1);
            Check.due("undo()", new CartTurns().undo(), -1);
            Check.due("the tape is the DOWNS", x.downs(), 0);
        });
    }

    private static void tape() {
        Edge.of("Twenty bytes come behind the tape, of each number the highest first: how many it has;", () -> {
            CartTurns x = new CartTurns();
            Check.due("feed", x.feed(0x66696775, 0x72652061, 0x62636420, 0x37203520, 0x3b207065), 20);
            Check.due("feed behind it", x.feed(0x72736f6e, 0x20782035, 0x20302033, 0x20363020, 0x3b202020), 40);
            Check.due("downs()", x.downs(), 2);
            row("figure", what -> x.figure(0, what), 7, 5, 12);
            row("person", what -> x.person(0, what), 5, 0, 3, 60);
            // a byte is 0 to 255, not below 0: neither a blank nor a cell
            x.feed(0xa0a0a0a0, -1, -1, -1, -1);
            Check.due("downs() of bytes above 127", x.downs(), -1);
            Check.due("fault()", x.fault(), 1);
        });
        Edge.of("NONE, and none come, if it would have more than 940.", () -> {
            CartTurns x = new CartTurns();
            for (int k = 1; k <= 46; k++) {
                Check.due("feed", x.feed(k, k, k, k, k), 20 * k);
            }
            Check.due("feed to 940", x.feed(0, 0, 0, 0, 0), 940);
            Check.due("feed to 960", x.feed(0, 0, 0, 0, 0), -1);
            Check.due("bytes", x.count(5), 940);
            Check.due("end(921)", x.end(921), true);
            Check.due("feed to 941", x.feed(0, 0, 0, 0, 0), -1);
            Check.due("bytes", x.count(5), 921);
            Check.due("end(920)", x.end(920), true);
            Check.due("feed to 940", x.feed(0, 0, 0, 0, 0), 940);
        });
        Edge.of("The tape has its first n bytes alone: true; false, if it has not so many, or n is below 0.", () -> {
            CartTurns x = new CartTurns();
            Check.put(x, "downs 9 9; wall 9 9 9;");
            Check.due("end(23)", x.end(23), false);
            Check.due("end(max)", x.end(Integer.MAX_VALUE), false);
            Check.due("end(-1)", x.end(-1), false);
            Check.due("end(min)", x.end(Integer.MIN_VALUE), false);
            Check.due("bytes", x.count(5), 22);
            Check.due("end(22)", x.end(22), true);
            Check.due("end(10)", x.end(10), true);
            Check.due("end(11)", x.end(11), false);
            Check.due("downs()", x.downs(), 1);
            Check.due("end(1) of the tape that was taken", x.end(1), false);
            Check.due("end(0)", x.end(0), true);
        });
    }

    private static void newDowns() {
        Edge.of("The tape (empty then, here and below) is the DOWNS now: how many LINES; -1 less the place of a FAULT: they stay.", () -> {
            CartTurns x = new CartTurns();
            Check.due("downs() of an empty tape", x.downs(), 0);
            Check.dueDowns(x, "downs 3 4;wall 1 1 2;person a 0 0 0 9;", 3, 0);
            x.hours(2);
            Check.dueDowns(x, "?", -1, 1);
            Check.dueDowns(x, "downs 9 9;wall 8 8 8;person b 7 7 1 8;figure f 0 0", -51, 1);
            row("count", x::count, 3, 4, 0, 1, 0, 0);
            row("now", x::now, 2, 2, 0, 0, 0, 1, 1, 9);
            Check.due("cell(1, 1, 0)", x.cell(1, 1, 0), 2);
            Check.due("cell(0, 0, 1)", x.cell(0, 0, 1), 0);
            Check.dueBook(x, "a rests;", 0, 0, 0);
            Check.dueBook(x, "b rests;", 0, -2, 3);
            Check.dueSentence(x, "upright", 1, 0);
            Check.dueSentence(x, "uprigh", -1, 1);
            Check.put(x, "\0\0");
            Check.due("tracks()", x.tracks(), -1);
            Check.due("bytes", x.count(5), 0);
        });
        Edge.of("New DOWNS: HOUR 0, no SENTENCE.", () -> {
            CartTurns x = Check.on("person a 0 0 0 9;wall 1 0 9;figure f 0 0;point p 0 0 0;");
            x.hours(7);
            x.kick(0, 0);
            x.say(0, 0, 0);
            Check.dueSentence(x, "upright", 1, 0);
            Check.dueDowns(x, "person a 1 0 0 9;point q 0 0 0;", 2, 0);
            row("now", x::now, 0, 0, 0, 0, 0, 0, 1, 9);
            Check.due("said(-1)", x.said(-1), -1);
            Check.due("said(0)", x.said(0), -1);
            row("person", what -> x.person(0, what), 1, 0, 0, 9, 9, 0, 0);
            Check.due("nothing was done on them", x.undo(), -1);
            x.hours(7);
            Check.due("downs() of nothing", x.downs(), 0);
            Check.due("HOUR", x.now(0), 0);
        });
    }

    private static void latestFault() {
        Edge.of("(a book() of -1000 leaves it); 0 without one and ahead of any.", () -> {
            CartTurns x = new CartTurns();
            Check.due("fault() ahead of any", x.fault(), 0);
            Check.due("book(2)", x.book(2), -1000);
            Check.due("fault()", x.fault(), 0);
            Check.dueDowns(x, "downs 1 1;", -7, 2);
            Check.due("book(-1)", x.book(-1), -1000);
            Check.due("fault() stays", x.fault(), 2);
            Check.due("tracks()", x.tracks(), -1);
            Check.due("say()", x.say(0, 0, 0), -1);
            Check.due("fault() stays", x.fault(), 2);
            Check.dueBook(x, "hour 1;", 0, -1, 0);
            Check.dueBook(x, "z rests;", 0, -2, 3);
            Check.dueSentence(x, "spent", 1, 0);
            Check.dueSentence(x, "not ".repeat(8) + "spent", -33, 4);
            Check.dueDowns(x, "", 0, 0);
        });
    }

    private static void personsAndFigures() {
        Edge.of("5 POINTS that came up for him, as bits, 6 FIGURES said so far. NoSuchElementException: no such ones.", () -> {
            CartTurns x = Check.on("person a 0 0 0 9;person b 1 1 1 8;point p 0 0 0;point q 0 0 0;");
            row("person 0", what -> x.person(0, what), 0, 0, 0, 9, 9, 3, 0);
            row("person 1", what -> x.person(1, what), 1, 1, 1, 8, 8, 0, 0);
            alwaysThrows("person, what 0", 2, p -> x.person(p, 0));
            alwaysThrows("person 1, what", 7, what -> x.person(1, what));
            Check.dueThrow("person(2, 7)", () -> x.person(2, 7));
            Check.dueThrow("a new person(0, 0)", () -> new CartTurns().person(0, 0));
        });
        Edge.of("A call that throws changes nothing.", () -> {
            CartTurns x = Check.on("person a 0 0 0 9;figure f 1 1;");
            x.say(0, 0, 0);
            Check.put(x, "abc");
            alwaysThrows("person", 1, p -> x.person(p, 0));
            alwaysThrows("mean", 2, x::mean);
            row("person 0", what -> x.person(0, what), 1, 0, 1, 7, 9, 0, 1);
            Check.due("bytes", x.count(5), 3);
            Check.due("fault()", x.fault(), 0);
            Check.due("undo()", x.undo(), 0);
        });
        Edge.of("Of a FIGURE: 0 QUARTERS, 1 CELLS, 2 what it costs. NONE: no such ones.", () -> {
            CartTurns x = Check.on("figure f 7 5;figure g 0 0;");
            row("figure 0", what -> x.figure(0, what), 7, 5, 12, -1);
            row("figure 1", what -> x.figure(1, what), 0, 0, 1, -1);
            alwaysNone("figure, what 0", 2, f -> x.figure(f, 0));
            alwaysNone("figure 0, what", 3, what -> x.figure(0, what));
        });
    }

    private static void pointsAndCells() {
        Edge.of("Of a POINT: 0 X, 1 Y, 2 UP, 3 PERSONS for whom it came up, as bits. NONE: no such ones.", () -> {
            CartTurns x = Check.on("person a 0 0 0 1;person b 5 4 3 9;point p 5 4 3;point q 0 0 1;");
            row("point 0", what -> x.point(0, what), 5, 4, 3, 2, -1);
            row("point 1", what -> x.point(1, what), 0, 0, 1, 0, -1);
            alwaysNone("point, what 3", 2, q -> x.point(q, 3));
            alwaysNone("point 0, what", 4, what -> x.point(0, what));
            Check.dueDowns(x, "person a 0 0 0 1;person b 1 0 0 1;person c 2 0 0 1;person d 3 0 0 1;person e 4 0 0 1;"
                + "point p 0 0 0;point q 1 0 0;point r 2 0 0;point s 3 0 0;point t 4 0 0;", 10, 0);
            row("for whom, of five", q -> x.point(q, 3), 1, 2, 4, 8, 16, -1);
        });
        Edge.of("Of a cell: 0 its wall (0: none), 1 who is there (NONE), 2 POINTS that are there, as bits. NONE, too: no such ones.", () -> {
            CartTurns x = Check.on("downs 3 2;wall 2 1 9;person a 0 1 0 1;point p 2 1 0;point q 0 0 0;point r 2 1 3;");
            row("cell 2 1", what -> x.cell(2, 1, what), 9, -1, 5, -1);
            row("cell 0 1", what -> x.cell(0, 1, what), 0, 0, 0, -1);
            row("cell 0 0", what -> x.cell(0, 0, what), 0, -1, 2, -1);
            for (int what = 0; what < 3; what++) {
                int asked = what;
                alwaysNone("cell, y 0", 3, cx -> x.cell(cx, 0, asked));
                alwaysNone("cell, x 0", 2, cy -> x.cell(0, cy, asked));
            }
            alwaysNone("cell 0 0, what", 3, what -> x.cell(0, 0, what));
        });
    }

    private static void now() {
        Edge.of("4 who is spent, 5 settled, 6 upright, as bits each, 7 BREATH of all. NONE for another what.", () -> {
            CartTurns x = Check.on("person a 0 0 0 1;person b 1 1 1 1;person c 2 2 2 60;person d 3 3 3 60;person e 4 4 0 60;"
                + "figure f 0 0;point p 4 4 0;");
            row("now", x::now, 0, 0, 0, 0, 0, 16, 17, 182, -1);
            x.say(1, 0, 0);
            row("now", x::now, 0, 0, 1, 0, 2, 16, 17, 181, -1);
            alwaysNone("now", 8, x::now);
            Check.due("without POINTS all are settled", Check.on("person a 0 0 0 1;person b 1 1 1 1;").now(5), 3);
            // those who were told on other DOWNS are gone
            Check.dueDowns(x, "person a 5 5 1 7;", 1, 0);
            row("now", x::now, 0, 0, 0, 0, 0, 1, 0, 7);
            Check.dueDowns(x, "", 0, 0);
            row("now", x::now, 0, 0, 0, 0, 0, 0, 0, 0);
        });
    }

    private static void counts() {
        Edge.of("0 WIDE, 1 HIGH, 2 FIGURES, 3 PERSONS, 4 POINTS, 5 bytes of the tape. NONE for another what.", () -> {
            CartTurns x = Check.on("downs 2 9;figure f 0 0;figure g 0 0;person a 0 0 0 1;point p 0 0 0;point q 0 0 0;point r 0 0 0;");
            row("count", x::count, 2, 9, 2, 1, 3, 0, -1);
            x.feed(0, 0, 0, 0, 0);
            Check.due("bytes", x.count(5), 20);
            alwaysNone("count", 6, x::count);
        });
    }

    private static void saying() {
        Edge.of("A FIGURE costs as much BREATH as its QUARTERS and CELLS together; 1 at least.", () -> {
            CartTurns x = Check.on("figure a 0 0;figure b 1 0;figure c 0 1;figure d 7 5;");
            row("cost", f -> x.figure(f, 2), 1, 1, 1, 12);
            CartTurns y = Check.on("person p 0 0 0 1;figure a 0 0;");
            Check.due("say", y.say(0, 0, 0), 0);
            Check.due("BREATH", y.person(0, 3), 0);
        });
        Edge.of("1 he has less BREATH than it costs;", () -> {
            CartTurns x = Check.on("person a 0 0 0 3;person b 0 1 0 4;person c 0 2 0 1;figure f 3 1;figure g 0 0;");
            Check.due("3 of 4", x.say(0, 0, 0), 1);
            Check.due("4 of 4", x.say(1, 0, 0), 0);
            Check.due("he has none", x.say(1, 1, 0), 1);
            Check.due("1 of 1", x.say(2, 1, 0), 0);
            Check.due("0 of 1", x.say(2, 1, 0), 1);
            row("a is as he was", what -> x.person(0, what), 0, 0, 0, 3, 3, 0, 0);
        });
        Edge.of("he is so many CELLS on, and QUARTERS farther up (modulo 4), and has so much less BREATH.", () -> {
            for (int quarters = 0; quarters < 8; quarters++) {
                for (int up = 0; up < 4; up++) {
                    CartTurns x = Check.on("person a 0 0 " + up + " 60;figure f " + quarters + " 5;");
                    Check.due("say", x.say(0, 0, 0), 0);
                    row("person", what -> x.person(0, what), 5, 0, (up + quarters) % 4, 55 - quarters);
                }
            }
        });
        Edge.of("A PERSON SAYS a FIGURE to a SIDE (0 to 3): 0, or why not; NONE: no such ones.", () -> {
            CartTurns x = Check.on("person a 2 2 0 9;figure f 0 1;");
            alwaysNone("say, PERSON", 1, p -> x.say(p, 0, 0));
            alwaysNone("say, FIGURE", 1, f -> x.say(0, f, 0));
            alwaysNone("say, SIDE", 4, side -> x.say(0, 0, side));
            row("person", what -> x.person(0, what), 2, 2, 0, 9, 9, 0, 0);
            row("say", side -> x.say(0, 0, side), 0, 0, 0, 0);
            row("person", what -> x.person(0, what), 2, 2, 0, 5, 9, 0, 4);
        });
    }

    private static void barred() {
        Edge.of("2 the rim is on the way;", () -> {
            for (int side = 0; side < 4; side++) {
                CartTurns x = Check.on("downs 5 5;person a 2 2 0 60;figure two 0 2;figure three 0 3;figure one 0 1;figure none 7 0;");
                Check.due("one cell beyond", x.say(0, 1, side), 2);
                Check.due("up to the rim", x.say(0, 0, side), 0);
                Check.due("X", x.person(0, 0), 2 + 2 * STEP_X[side]);
                Check.due("Y", x.person(0, 1), 2 + 2 * STEP_Y[side]);
                Check.due("beyond the rim", x.say(0, 2, side), 2);
                Check.due("no CELLS: no rim is on the way", x.say(0, 3, side), 0);
            }
        });
        Edge.of("3 a wall is;", () -> barredBy("wall ", " 1;", 3));
        Edge.of("4 a PERSON is (in some of the CELLS to that SIDE, the last one, too;", () -> barredBy("person b ", " 0 1;", 4));
        Edge.of("if there are unlike ones, the least of these numbers):", () -> {
            String all = "downs 6 2;person a 0 0 0 9;figure two 0 2;figure five 0 5;figure far 7 5;";
            Check.due("a PERSON, a wall", Check.on(all + "person b 1 0 0 1;wall 2 0 1;").say(0, 0, 0), 3);
            Check.due("a wall, a PERSON", Check.on(all + "person b 2 0 0 1;wall 1 0 1;").say(0, 0, 0), 3);
            Check.due("a PERSON, a wall, the rim", Check.on("downs 3 2;person a 0 0 0 9;figure f 0 3;person b 1 0 0 1;wall 2 0 1;")
                .say(0, 0, 0), 2);
            Check.due("a PERSON, the rim", Check.on("downs 2 2;person a 0 0 0 9;figure f 0 2;person b 1 0 0 1;").say(0, 0, 0), 2);
            Check.due("a wall, the rim", Check.on("downs 2 2;person a 0 0 0 9;figure f 0 2;wall 1 0 1;").say(0, 0, 0), 2);
            Check.due("a PERSON at one, a wall at five", Check.on(all + "person b 1 0 0 1;wall 5 0 1;").say(0, 1, 0), 3);
            Check.due("a PERSON alone", Check.on(all + "person b 1 0 0 1;wall 5 0 1;").say(0, 0, 0), 4);
            Check.due("too little BREATH is less than all", Check.on(all + "wall 1 0 1;").say(0, 2, 2), 1);
        });
    }

    /** A FIGURE of 3 CELLS, and something in each of the four cells to a SIDE: the fourth is not on the way. */
    private static void barredBy(String ahead, String behind, int why) {
        for (int side = 0; side < 4; side++) {
            for (int far = 1; far <= 4; far++) {
                String cell = (4 + far * STEP_X[side]) + " " + (4 + far * STEP_Y[side]);
                CartTurns x = Check.on("downs 9 9;person a 4 4 0 9;figure f 0 3;" + ahead + cell + behind);
                Check.due("at " + far + " to " + side, x.say(0, 0, side), far <= 3 ? why : 0);
                Check.due("the other way", x.say(0, 0, (side + 2) % 4), 0);
            }
        }
    }

    private static void pointsComingUp() {
        Edge.of("Then each POINT of his cell and UP has come up for him (it stays so; at first, too, it comes up for who is there).", () -> {
            CartTurns x = Check.on("person a 0 0 3 60;person b 3 0 1 60;figure f 2 1;point p 0 0 3;point q 1 0 1;point r 1 0 1;"
                + "point s 1 0 0;point t 2 0 3;");
            Check.due("at first", x.person(0, 5), 1);
            Check.due("not for b", x.person(1, 5), 0);
            x.say(0, 0, 0);
            Check.due("both of the cell and UP", x.person(0, 5), 7);
            x.say(1, 0, 2);
            Check.due("for b, too", x.person(1, 5), 16);
            Check.due("say", x.say(0, 0, 2), 0);
            Check.due("say", x.say(1, 0, 2), 0);
            Check.due("it stays so", x.person(1, 5), 22);
            Check.due("for whom p came up", x.point(0, 3), 1);
            Check.due("for whom q came up", x.point(1, 3), 3);
            Check.due("for whom s came up", x.point(3, 3), 0);
            // one who is told behind the POINT and one who is told ahead of it
            CartTurns y = Check.on("person a 0 0 0 1;point p 0 0 0;point q 1 1 1;person b 1 1 1 1;");
            Check.due("told ahead", y.person(0, 5), 1);
            Check.due("told behind", y.person(1, 5), 2);
        });
    }

    private static void kicking() {
        Edge.of("To KICK a wall next to him on a SIDE: 1 he has no BREATH; 2 there is none:", () -> {
            for (int side = 0; side < 4; side++) {
                String cell = (1 + STEP_X[side]) + " " + (1 + STEP_Y[side]);
                CartTurns x = Check.on("downs 3 3;person a 1 1 0 2;wall " + cell + " 3;");
                for (int other = 0; other < 4; other++) {
                    if (other != side) {
                        Check.due("kick to " + other, x.kick(0, other), 2);
                    }
                }
                Check.due("kick", x.kick(0, side), 0);
                Check.due("kick", x.kick(0, side), 0);
                Check.due("no BREATH", x.kick(0, side), 1);
                Check.due("no BREATH, no wall", x.kick(0, (side + 1) % 4), 1);
                Check.due("kicks", x.now(3), 2);
            }
            CartTurns rim = Check.on("downs 2 2;person a 0 0 0 9;person b 1 0 0 9;wall 1 1 1;");
            row("the rim, a PERSON, no wall aslant", side -> rim.kick(0, side), 2, 2, 2, 2);
            Check.due("two cells off", Check.on("person a 0 0 0 9;wall 2 0 1;").kick(0, 0), 2);
        });
        Edge.of("it is 1 less (0: there is none any more), he has 1 BREATH less.", () -> {
            CartTurns x = Check.on("person a 0 0 0 60;wall 1 0 9;figure f 0 1;");
            for (int left = 8; left >= 0; left--) {
                Check.due("the wall bars", x.say(0, 0, 0), 3);
                Check.due("kick", x.kick(0, 0), 0);
                Check.due("its wall", x.cell(1, 0, 0), left);
                Check.due("all walls", x.now(1), left);
                Check.due("BREATH", x.person(0, 3), 51 + left);
            }
            Check.due("none any more", x.kick(0, 0), 2);
            Check.due("BREATH", x.person(0, 3), 51);
            Check.due("the way is free", x.say(0, 0, 0), 0);
        });
        Edge.of("He KICKS a wall on a SIDE: 0, or why not; NONE: no such ones.", () -> {
            CartTurns x = Check.on("person a 0 0 0 9;wall 1 0 9;");
            alwaysNone("kick, PERSON", 1, p -> x.kick(p, 0));
            alwaysNone("kick, SIDE", 4, side -> x.kick(0, side));
            Check.due("all walls", x.now(1), 9);
            Check.due("undo()", x.undo(), -1);
        });
    }

    private static void resting() {
        Edge.of("To REST: 1 he has as much BREATH as at first: he has.", () -> {
            CartTurns x = Check.on("person a 0 0 0 60;person b 1 1 0 1;figure f 0 0;");
            Check.due("at first", x.rest(0), 1);
            x.say(0, 0, 0);
            Check.due("one less", x.rest(0), 0);
            Check.due("BREATH", x.person(0, 3), 60);
            Check.due("again", x.rest(0), 1);
            x.say(1, 0, 0);
            Check.due("spent", x.rest(1), 0);
            Check.due("BREATH", x.person(1, 3), 1);
            Check.due("as by HOURS", x.say(0, 0, 0) + x.hours(1), 1);
            Check.due("rest", x.rest(0), 1);
        });
        Edge.of("He RESTS: 0, or why not; NONE: no such one.", () -> {
            CartTurns x = Check.on("person a 0 0 0 9;");
            alwaysNone("rest", 1, x::rest);
            Check.due("a new rest(0)", new CartTurns().rest(0), -1);
        });
    }

    private static void hours() {
        Edge.of("An HOUR (0 to 399; 400: all are over) goes: each PERSON has 1 BREATH more, as much as at first at most.", () -> {
            CartTurns x = Check.on("person a 0 0 0 60;person b 1 1 0 2;person c 3 3 0 5;figure f 2 0;");
            x.say(0, 0, 0);
            x.say(0, 0, 0);
            x.say(1, 0, 0);
            Check.due("hours(1)", x.hours(1), 1);
            row("BREATH", p -> x.person(p, 3), 57, 1, 5);
            Check.due("hours(2)", x.hours(2), 2);
            row("BREATH", p -> x.person(p, 3), 59, 2, 5);
            Check.due("hours(60)", x.hours(60), 60);
            row("BREATH", p -> x.person(p, 3), 60, 2, 5);
            for (int k = 0; k < 5; k++) {
                Check.due("hours(60)", x.hours(60), 60);
            }
            Check.due("hours(36)", x.hours(36), 36);
            Check.due("the last HOUR", x.now(0), 399);
            x.say(0, 0, 0);
            Check.due("hours(2)", x.hours(2), 1);
            Check.due("BREATH", x.person(0, 3), 59);
            Check.due("all are over", x.now(0), 400);
            Check.due("hours(1)", x.hours(1), 0);
            Check.due("BREATH", x.person(0, 3), 59);
            Check.due("HOUR", x.now(0), 400);
        });
        Edge.of("n (1 to 60) HOURS go by: how many did; NONE: not as told.", () -> {
            CartTurns x = Check.on("person a 0 0 0 60;");
            Check.due("hours(0)", x.hours(0), -1);
            alwaysNone("hours", 61, x::hours);
            Check.due("HOUR", x.now(0), 0);
            Check.due("hours(1)", x.hours(1), 1);
            Check.due("hours(60)", x.hours(60), 60);
            Check.due("HOUR", x.now(0), 61);
            CartTurns none = new CartTurns();
            for (int k = 0; k < 6; k++) {
                Check.due("without PERSONS", none.hours(60), 60);
            }
            Check.due("the last forty", none.hours(60), 40);
            Check.due("none are left", none.hours(60), 0);
            Check.due("not as told all the same", none.hours(61), -1);
        });
    }

    private static void undoing() {
        Edge.of("The latest of say(), kick(), rest() that was done, hours() above 0, drawn() above 0, a BOOK of which some LINE was lived is undone:", () -> {
            CartTurns x = Check.on("downs 3 3;person a 0 0 0 9;wall 1 0 9;figure f 1 1;point p 0 1 1;");
            x.kick(0, 0);
            x.say(0, 0, 1);
            x.rest(0);
            x.hours(3);
            x.drawn(2, 77);
            Check.dueBook(x, "hour 1;", 1, -1, 0);
            int[][] now = {{5}, {3, 8, 1, 1, 0, 1, 0, 9}, {0, 8, 1, 1, 0, 1, 0, 9}, {0, 8, 1, 1, 0, 1, 0, 6}, {0, 8, 0, 1, 0, 0, 1, 8},
                {0, 9, 0, 0, 0, 0, 1, 9}};
            for (int k = 0; k < now.length; k++) {
                Check.due("undo()", x.undo(), now.length - 1 - k);
                row("now behind undo " + k, x::now, now[k]);
            }
            row("person", what -> x.person(0, what), 0, 0, 0, 9, 9, 0, 0);
            Check.due("undo()", x.undo(), -1);
        });
        Edge.of("how many more can be (8 at most are kept); NONE: none is.", () -> {
            CartTurns x = Check.on("person a 0 0 0 60;figure f 0 0;");
            Check.due("none is", x.undo(), -1);
            for (int k = 0; k < 8; k++) {
                x.say(0, 0, 0);
            }
            for (int k = 7; k >= 0; k--) {
                Check.due("undo() of 8", x.undo(), k);
                Check.due("said", x.now(2), k);
            }
            Check.due("none is", x.undo(), -1);
            for (int k = 0; k < 21; k++) {
                x.say(0, 0, 0);
            }
            for (int k = 7; k >= 3; k--) {
                Check.due("undo() of 21", x.undo(), k);
                Check.due("said", x.now(2), 13 + k);
            }
            x.hours(1);
            Check.due("undo() of what came then", x.undo(), 3);
            for (int k = 2; k >= 0; k--) {
                Check.due("undo() of the others", x.undo(), k);
                Check.due("said", x.now(2), 13 + k);
            }
            Check.due("none is", x.undo(), -1);
            Check.due("said", x.now(2), 13);
        });
    }

    private static void undoingBooks() {
        Edge.of("a BOOK of which some LINE was lived", () -> {
            CartTurns x = Check.on("person a 0 0 0 9;figure f 0 1;");
            Check.dueBook(x, "", 1, -1, 0);
            Check.dueBook(x, "a rests;hour 1;", 1, 0, 0);
            Check.dueBook(x, "hour 1;", 0, -1, 0);
            Check.dueBook(x, "hour 1;a", 1, -10, 1);
            Check.due("book(2)", x.book(2), -1000);
            Check.due("none was lived", x.undo(), -1);
            Check.dueBook(x, "hour 1;a rests;", 1, 1, 0);
            Check.dueBook(x, "a says f east;hour 2;a says f south;", 1, -1, 0);
            Check.due("the whole BOOK at once", x.undo(), 1);
            row("now", x::now, 1, 0, 0, 0, 0, 1, 1, 9);
            Check.due("the one LINE that was lived", x.undo(), 0);
            Check.due("HOUR", x.now(0), 0);
        });
        Edge.of("that was done, hours() above 0, drawn() above 0", () -> {
            CartTurns x = Check.on("person a 0 0 0 9;figure f 0 1;figure far 7 5;");
            x.say(0, 0, 2);
            x.say(0, 1, 0);
            x.say(1, 0, 0);
            x.kick(0, 0);
            x.rest(0);
            x.hours(0);
            x.hours(61);
            x.drawn(0, 1);
            x.drawn(61, 1);
            x.image(0);
            Check.due("nothing was done", x.undo(), -1);
            for (int k = 0; k < 7; k++) {
                x.hours(60);
            }
            x.hours(60);
            x.drawn(60, 1);
            Check.due("what was 0 is not undone", x.undo(), 6);
            Check.due("HOUR", x.now(0), 360);
        });
    }

    private static void could() {
        Edge.of("SIDES to which a PERSON could SAY a FIGURE now, as bits; NONE: no such ones.", () -> {
            CartTurns x = Check.on("downs 3 3;person a 1 1 0 2;figure one 0 1;figure none 2 0;figure two 0 2;figure dear 3 0;");
            row("could", f -> x.could(0, f), 15, 15, 0, 0, -1);
            alwaysNone("could, PERSON", 1, p -> x.could(p, 0));
            alwaysNone("could, FIGURE", 4, f -> x.could(0, f));
            Check.due("say", x.say(0, 0, 0), 0);
            row("could", f -> x.could(0, f), 14, 0, 0, 0);
            Check.due("undo()", x.undo(), 0);
            for (int side = 0; side < 4; side++) {
                String cell = (1 + STEP_X[side]) + " " + (1 + STEP_Y[side]);
                CartTurns y = Check.on("downs 3 3;person a 1 1 0 2;figure one 0 1;wall " + cell + " 1;");
                Check.due("a wall at " + side, y.could(0, 0), 15 - (1 << side));
            }
        });
    }
}
