/** Promises 6 to 16: what is so, saying, kicking, resting, HOURS, undoing, what could be. */
public final class ActsTest {
    private static final String DOWNS = "downs 5 4;wall 2 1 2;figure yes 1 1;figure no 2 0;figure far 4 2;"
        + "person ann 0 1 0 12;person bob 4 1 2 6;point her 3 1 2;point him 0 0 0;point sea 0 1 0;";

    public static void main(String[] args) {
        looks();
        wrongLooks();
        nows();
        saying();
        leastReason();
        costs();
        pointsComeUp();
        kicking();
        resting();
        hours();
        undoing();
        nothingToUndo();
        could();
        Check.finish("ActsTest");
    }

    private static void row(String call, int[] want, java.util.function.IntUnaryOperator answer) {
        for (int what = 0; what < want.length; what++) {
            Check.due(call + " " + what, answer.applyAsInt(what), want[what]);
        }
    }

    private static void looks() {
        CartTurns x = Check.on(DOWNS);
        row("person 0", new int[] {0, 1, 0, 12, 12, 4, 0}, what -> x.person(0, what));
        row("person 1", new int[] {4, 1, 2, 6, 6, 0, 0}, what -> x.person(1, what));
        row("figure 0", new int[] {1, 1, 2, -1}, what -> x.figure(0, what));
        row("figure 2", new int[] {4, 2, 6, -1}, what -> x.figure(2, what));
        row("point 0", new int[] {3, 1, 2, 0, -1}, what -> x.point(0, what));
        row("point 2", new int[] {0, 1, 0, 1, -1}, what -> x.point(2, what));
        row("cell 0 1", new int[] {0, 0, 4, -1}, what -> x.cell(0, 1, what));
        row("cell 2 1", new int[] {2, -1, 0, -1}, what -> x.cell(2, 1, what));
        row("cell 4 1", new int[] {0, 1, 0, -1}, what -> x.cell(4, 1, what));
    }

    private static void wrongLooks() {
        CartTurns x = Check.on(DOWNS);
        Check.dueThrow("person(2, 0)", () -> x.person(2, 0));
        Check.dueThrow("person(-1, 0)", () -> x.person(-1, 0));
        Check.dueThrow("person(0, 7)", () -> x.person(0, 7));
        Check.dueThrow("person(0, -1)", () -> x.person(0, -1));
        for (int wrong : new int[] {-1, 3, Integer.MIN_VALUE, Integer.MAX_VALUE}) {
            Check.due("figure(" + wrong + ", 0)", x.figure(wrong, 0), -1);
            Check.due("point(" + wrong + ", 0)", x.point(wrong, 0), -1);
            Check.due("figure(0, " + wrong + ")", x.figure(0, wrong), -1);
            Check.due("cell(0, 0, " + wrong + ")", x.cell(0, 0, wrong), -1);
            Check.due("say(" + wrong + ", 0, 0)", x.say(wrong, 0, 0), -1);
            Check.due("say(0, " + wrong + ", 0)", x.say(0, wrong, 0), -1);
            Check.due("kick(" + wrong + ", 0)", x.kick(wrong, 0), -1);
            Check.due("rest(" + wrong + ")", x.rest(wrong), -1);
            Check.due("could(" + wrong + ", 0)", x.could(wrong, 0), -1);
            Check.due("could(0, " + wrong + ")", x.could(0, wrong), -1);
        }
        Check.due("point(0, 4)", x.point(0, 4), -1);
        Check.due("point(0, -1)", x.point(0, -1), -1);
        Check.due("cell(-1, 0, 0)", x.cell(-1, 0, 0), -1);
        Check.due("cell(0, -1, 0)", x.cell(0, -1, 0), -1);
        Check.due("cell(5, 0, 0)", x.cell(5, 0, 0), -1);
        Check.due("cell(0, 4, 0)", x.cell(0, 4, 0), -1);
        Check.due("say(0, 0, 4)", x.say(0, 0, 4), -1);
        Check.due("say(0, 0, -1)", x.say(0, 0, -1), -1);
        Check.due("kick(0, 4)", x.kick(0, 4), -1);
        Check.due("kick(0, -1)", x.kick(0, -1), -1);
        Check.due("now(-1)", x.now(-1), -1);
        Check.due("now(8)", x.now(8), -1);
        Check.due("undo() behind all these", x.undo(), -1);
    }

    private static void nows() {
        CartTurns x = Check.on("wall 0 0 9;wall 1 1 8;person a 0 1 1 1;person b 2 0 0 3;person c 3 3 0 2;"
            + "figure f 0 1;point q 3 3 0;");
        row("now", new int[] {0, 17, 0, 0, 0, 4, 6, 6}, x::now);
        Check.due("kick", x.kick(0, 3), 0);
        row("now", new int[] {0, 16, 0, 1, 1, 4, 6, 5}, x::now);
        Check.due("say", x.say(1, 0, 0), 0);
        Check.due("say", x.say(2, 0, 1), 0);
        row("now", new int[] {0, 16, 2, 1, 1, 4, 6, 3}, x::now);
        x.hours(1);
        row("now", new int[] {1, 16, 2, 1, 0, 4, 6, 6}, x::now);
        CartTurns none = Check.on("person a 0 0 0 1;person b 0 1 2 1;");
        Check.due("without POINTS all are settled", none.now(5), 3);
    }

    private static void saying() {
        CartTurns x = Check.on("downs 5 5;person a 2 2 3 60;figure f 7 1;figure g 3 2;");
        int[][] to = {{3, 2}, {3, 3}, {2, 3}, {2, 2}};
        int up = 3;
        for (int side = 0; side < 4; side++) {
            Check.due("say to " + side, x.say(0, 0, side), 0);
            up = (up + 7) % 4;
            Check.due("X", x.person(0, 0), to[side][0]);
            Check.due("Y", x.person(0, 1), to[side][1]);
            Check.due("UP", x.person(0, 2), up);
            Check.due("BREATH", x.person(0, 3), 60 - 8 * (side + 1));
            Check.due("said", x.person(0, 6), side + 1);
        }
        Check.due("say g", x.say(0, 1, 2), 0);
        Check.due("X", x.person(0, 0), 0);
        Check.due("say g again", x.say(0, 1, 2), 2);
        Check.due("said", x.person(0, 6), 5);
        Check.due("BREATH", x.person(0, 3), 23);
    }

    private static void leastReason() {
        CartTurns x = Check.on("downs 6 3;person a 0 0 0 9;person b 1 0 0 9;wall 2 0 1;wall 3 1 1;person c 2 1 0 9;"
            + "figure two 0 2;figure five 0 5;figure one 0 1;figure dear 7 5;figure three 0 3;");
        Check.due("a PERSON on the way", x.say(0, 2, 0), 4);
        Check.due("a PERSON, then a wall", x.say(0, 0, 0), 3);
        Check.due("a PERSON and a wall within the rim", x.say(0, 1, 0), 3);
        Check.due("a PERSON, a wall, the rim", x.say(1, 1, 0), 2);
        Check.due("all of them, and too little BREATH", x.say(1, 3, 0), 1);
        Check.due("the last cell's wall", x.say(2, 2, 0), 3);
        Check.due("the wall on the way, the last cell free", x.say(2, 0, 0), 3);
        Check.due("the last cell's PERSON", x.say(1, 2, 2), 4);
        Check.due("the wall next to him in the north", x.say(2, 2, 3), 3);
        Check.due("the wall and the rim", x.say(2, 4, 3), 2);
        Check.due("nothing", x.say(2, 0, 2), 0);
        Check.due("X", x.person(2, 0), 0);
    }

    private static void costs() {
        CartTurns x = Check.on("person a 0 0 0 2;figure still 0 0;figure turn 4 0;figure step 0 1;");
        Check.due("cost of still", x.figure(0, 2), 1);
        Check.due("cost of turn", x.figure(1, 2), 4);
        Check.due("say turn", x.say(0, 1, 2), 1);
        Check.due("say still at the rim", x.say(0, 0, 2), 0);
        Check.due("BREATH", x.person(0, 3), 1);
        Check.due("say step", x.say(0, 2, 0), 0);
        Check.due("spent", x.now(4), 1);
        Check.due("say still", x.say(0, 0, 0), 1);
        Check.due("said", x.person(0, 6), 2);
    }

    private static void pointsComeUp() {
        CartTurns x = Check.on("person a 0 0 0 60;person b 5 5 1 9;figure f 1 1;point p 0 0 0;point q 1 0 1;"
            + "point r 1 0 2;point s 1 0 1;point t 5 5 1;");
        Check.due("at first", x.person(0, 5), 1);
        Check.due("at first", x.person(1, 5), 16);
        x.say(0, 0, 0);
        Check.due("two at once", x.person(0, 5), 1 + 2 + 8);
        Check.due("for whom", x.point(1, 3), 1);
        Check.due("in the cell", x.cell(1, 0, 2), 2 + 4 + 8);
        x.say(0, 0, 0);
        Check.due("it stays so", x.person(0, 5), 1 + 2 + 8);
        Check.due("for whom t came up", x.point(4, 3), 2);
    }

    private static void kicking() {
        CartTurns x = Check.on("downs 3 3;person a 0 0 0 3;wall 1 0 2;wall 0 1 1;point p 2 2 0;figure f 0 1;");
        Check.due("the rim", x.kick(0, 3), 2);
        Check.due("the rim", x.kick(0, 2), 2);
        Check.due("the wall south", x.kick(0, 1), 0);
        Check.due("it is gone", x.cell(0, 1, 0), 0);
        Check.due("none any more", x.kick(0, 1), 2);
        Check.due("the wall east", x.kick(0, 0), 0);
        Check.due("it is less", x.cell(1, 0, 0), 1);
        Check.due("the wall bars", x.say(0, 0, 0), 3);
        Check.due("the wall east", x.kick(0, 0), 0);
        Check.due("no BREATH, no wall: the least", x.kick(0, 0), 1);
        Check.due("kicks", x.now(3), 3);
        Check.due("kicking is no saying", x.now(2), 0);
    }

    private static void resting() {
        CartTurns x = Check.on("person a 0 0 0 9;figure f 3 3;");
        Check.due("rest", x.rest(0), 1);
        x.say(0, 0, 0);
        Check.due("BREATH", x.person(0, 3), 3);
        Check.due("rest", x.rest(0), 0);
        Check.due("BREATH", x.person(0, 3), 9);
        Check.due("rest", x.rest(0), 1);
        Check.due("undo", x.undo(), 1);
        Check.due("BREATH", x.person(0, 3), 3);
    }

    private static void hours() {
        CartTurns x = Check.on("person a 0 0 0 9;person b 0 1 0 4;figure f 1 1;");
        for (int wrong : new int[] {0, 61, -1, Integer.MIN_VALUE, Integer.MAX_VALUE}) {
            Check.due("hours(" + wrong + ")", x.hours(wrong), -1);
        }
        x.say(0, 0, 0);
        x.say(0, 0, 0);
        x.say(1, 0, 0);
        Check.due("hours(3)", x.hours(3), 3);
        Check.due("BREATH", x.person(0, 3), 8);
        Check.due("no more than at first", x.person(1, 3), 4);
        for (int k = 0; k < 6; k++) {
            Check.due("hours(60)", x.hours(60), 60);
        }
        Check.due("HOUR", x.now(0), 363);
        Check.due("the last ones", x.hours(60), 37);
        Check.due("HOUR", x.now(0), 400);
        Check.due("all are over", x.hours(1), 0);
        Check.due("wrong all the same", x.hours(61), -1);
        Check.due("saying goes on", x.say(0, 0, 0), 0);
        Check.due("no HOUR is drawn", x.drawn(5, 1), 0);
        Check.due("undo the saying", x.undo(), 7);
        Check.due("undo the last HOURS", x.undo(), 6);
        Check.due("HOUR", x.now(0), 363);
    }

    private static void undoing() {
        CartTurns x = Check.on("downs 9 2;person a 0 0 0 60;figure f 0 1;wall 0 1 9;point q 1 0 0;");
        for (int k = 0; k < 6; k++) {
            x.say(0, 0, 0);
        }
        x.hours(1);
        x.rest(0);
        x.drawn(2, 5);
        x.kick(0, 1);
        Check.due("8 are kept", x.undo(), 7);
        for (int k = 6; k >= 0; k--) {
            Check.due("undo", x.undo(), k);
        }
        Check.due("none is", x.undo(), -1);
        CartTurns y = Check.on("downs 9 2;person a 0 0 0 60;figure f 0 1;wall 0 1 9;point q 1 0 0;");
        y.kick(0, 1);
        y.say(0, 0, 0);
        Check.due("undo the say", y.undo(), 1);
        Check.due("X", y.person(0, 0), 0);
        Check.due("came up", y.person(0, 5), 0);
        Check.due("said", y.now(2), 0);
        Check.due("undo the kick", y.undo(), 0);
        Check.due("walls", y.now(1), 9);
        Check.due("kicks", y.now(3), 0);
        Check.due("BREATH", y.person(0, 3), 60);
        Check.dueBook(y, "a kicks south;hour 3;a kicks east;", 1, 2, 0);
        Check.due("undo the BOOK at once", y.undo(), 0);
        Check.due("HOUR", y.now(0), 0);
        Check.due("walls", y.now(1), 9);
        Check.due("drawn", y.drawn(7, 99), 7);
        Check.due("undo the draws", y.undo(), 0);
        Check.due("HOUR", y.now(0), 0);
    }

    private static void nothingToUndo() {
        CartTurns x = Check.on("person a 0 0 0 60;figure f 0 1;");
        x.say(0, 0, 2);
        x.kick(0, 0);
        x.rest(0);
        x.hours(0);
        x.drawn(0, 1);
        Check.dueBook(x, "", 1, -1, 0);
        Check.dueBook(x, "a rests;hour 1;", 1, 0, 0);
        Check.dueBook(x, "hour 1;", 0, -1, 0);
        Check.dueBook(x, "hour 1;hour", 1, -13, 1);
        x.odds(0, 0, 5, 5);
        Check.due("undo()", x.undo(), -1);
        x.say(0, 0, 0);
        Check.dueSentence(x, "upright", 1, 0);
        Check.due("undo()", x.undo(), 0);
        Check.due("the SENTENCE stays", x.said(-1), 1);
    }

    private static void could() {
        CartTurns x = Check.on(DOWNS);
        Check.due("could(0, 0)", x.could(0, 0), 11);
        Check.due("could(0, 1)", x.could(0, 1), 15);
        Check.due("could(0, 2)", x.could(0, 2), 2);
        Check.due("could(1, 0)", x.could(1, 0), 14);
        Check.due("undo()", x.undo(), -1);
        x.say(1, 0, 1);
        Check.due("without BREATH", x.could(1, 2), 0);
    }
}
