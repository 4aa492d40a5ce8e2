/** Promises 17 to 25: WAY, BOTH, SEES, UNDOES, TRACKS, TELLS. */
public final class WaysTest {
    public static void main(String[] args) {
        ways();
        firstOfLikeOnes();
        inTheWay();
        both();
        sees();
        undoes();
        tracks();
        wrongTracks();
        Check.finish("WaysTest");
    }

    private static void dueWay(CartTurns x, int p, int q, int... want) {
        Check.due("way(" + p + ", " + q + ")", x.way(p, q), want.length);
        dueWayAt(x, want);
    }

    private static void dueWayAt(CartTurns x, int... want) {
        for (int k = 0; k < want.length; k++) {
            Check.due("wayAt(" + k + ")", x.wayAt(k), want[k]);
        }
        Check.due("wayAt(-1)", x.wayAt(-1), -1);
        Check.due("wayAt(" + want.length + ")", x.wayAt(want.length), -1);
    }

    private static void ways() {
        CartTurns x = Check.on("downs 4 4;person a 0 0 0 1;figure turn 1 0;figure step 0 1;"
            + "point here 0 0 0;point round 0 0 3;point there 2 1 0;point brick 3 3 0;wall 3 3 1;");
        dueWayAt(x);
        dueWay(x, 0, 0);
        dueWay(x, 0, 1, 0, 0, 0);
        dueWay(x, 0, 2, 4, 4, 5);
        Check.due("way to a wall", x.way(0, 3), -1);
        dueWayAt(x, 4, 4, 5);
        Check.due("way(1, 0)", x.way(1, 0), -1);
        Check.due("way(-1, 0)", x.way(-1, 0), -1);
        Check.due("way(0, 4)", x.way(0, 4), -1);
        Check.due("way(0, -1)", x.way(0, -1), -1);
        dueWayAt(x, 4, 4, 5);
        x.sees(0);
        x.both(0, 0, 0);
        Check.dueDowns(x, "downs 2 2;", 1, 0);
        dueWayAt(x, 4, 4, 5);
    }

    private static void firstOfLikeOnes() {
        CartTurns x = Check.on("downs 5 5;person a 0 0 0 9;figure long 0 2;figure step 0 1;figure also 4 1;point q 3 3 0;"
            + "point r 1 1 0;");
        dueWay(x, 0, 0, 0, 1, 4, 5);
        dueWay(x, 0, 1, 4, 5);
        CartTurns y = Check.on("downs 5 5;person a 2 2 0 9;figure still 0 0;figure f 2 1;point q 2 2 2;point r 2 2 0;");
        dueWay(y, 0, 1);
        Check.due("an even number of steps can't turn him", y.way(0, 0), -1);
        CartTurns z = Check.on("downs 5 5;person a 2 2 0 9;figure f 1 1;point r 2 2 2;");
        dueWay(z, 0, 0, 0, 2);
    }

    private static void inTheWay() {
        String row = "downs 7 2;person a 0 0 0 9;figure step 0 1;figure leap 0 3;point q 5 0 0;";
        dueWay(Check.on(row), 0, 0, 0, 0, 4);
        dueWay(Check.on(row + "wall 1 0 1;"), 0, 0, 1, 0, 0, 3, 4);
        dueWay(Check.on(row + "person b 1 0 0 9;"), 0, 0, 1, 0, 0, 3, 4);
        CartTurns x = Check.on(row + "person b 5 0 0 9;person c 5 1 0 9;");
        Check.due("one is there", x.way(0, 0), -1);
        Check.due("his own way is none", x.way(1, 0), 0);
        Check.due("the other's way", x.way(2, 0), -1);
        Check.due("both are away", x.both(0, 1, 0), 3);
    }

    private static void both() {
        CartTurns x = Check.on("downs 5 2;person a 0 0 0 1;person b 1 0 0 1;person c 2 1 0 1;wall 1 1 1;figure step 0 1;"
            + "point q 3 0 0;point w 1 1 0;");
        Check.due("both(0, 1, 0)", x.both(0, 1, 0), 3);
        Check.due("both(1, 0, 0)", x.both(1, 0, 0), 3);
        Check.due("one stands in a's way", x.both(0, 2, 0), -1);
        Check.due("b and c", x.both(1, 2, 0), 2);
        Check.due("where a wall is", x.both(0, 1, 1), -1);
        Check.due("alike", x.both(0, 0, 0), -1);
        Check.due("both(0, 3, 0)", x.both(0, 3, 0), -1);
        Check.due("both(-1, 1, 0)", x.both(-1, 1, 0), -1);
        Check.due("both(0, 1, 2)", x.both(0, 1, 2), -1);
        Check.due("wayAt", x.wayAt(0), -1);
    }

    private static void sees() {
        Check.due("without FIGURES", Check.on("person a 0 0 0 1;").sees(0), 1);
        Check.due("all", Check.on("downs 9 9;person a 0 0 0 1;figure f 7 1;").sees(0), 81);
        Check.due("by leaps", Check.on("downs 5 5;person a 0 0 0 1;figure f 1 2;").sees(0), 9);
        CartTurns x = Check.on("downs 4 2;person a 0 0 0 1;person b 1 0 0 1;wall 1 1 1;figure f 1 1;");
        Check.due("shut in", x.sees(0), 2);
        Check.due("beyond", x.sees(1), 5);
        Check.due("sees(2)", x.sees(2), -1);
        Check.due("sees(-1)", x.sees(-1), -1);
    }

    private static void dueUndoes(CartTurns x, int f, int... want) {
        Check.due("undoes(" + f + ")", x.undoes(f), want.length);
        dueUndoesAt(x, want);
    }

    private static void dueUndoesAt(CartTurns x, int... want) {
        for (int k = 0; k < want.length; k++) {
            Check.due("undoesAt(" + k + ")", x.undoesAt(k), want[k]);
        }
        Check.due("undoesAt(-1)", x.undoesAt(-1), -1);
        Check.due("undoesAt(" + want.length + ")", x.undoesAt(want.length), -1);
    }

    private static void undoes() {
        CartTurns x = Check.on("figure f 1 1;figure g 3 0;figure h 2 3;figure i 7 5;figure k 0 0;");
        dueUndoesAt(x);
        dueUndoes(x, 0, 0, 2, 2);
        dueUndoes(x, 1, 0, 2, 4);
        dueUndoes(x, 2, 10);
        dueUndoes(x, 4, 16);
        Check.due("undoes(5)", x.undoes(5), -1);
        Check.due("undoes(-1)", x.undoes(-1), -1);
        dueUndoesAt(x, 16);
        // three more of the same always do: one on, two back, four times the QUARTERS
        dueUndoes(Check.on("figure f 1 5;figure g 0 1;"), 0, 0, 2, 2);
        dueUndoes(Check.on("figure f 1 0;figure g 0 5;figure h 1 4;"), 2, 0, 0, 10);
        dueUndoes(Check.on("figure f 2 0;figure h 1 4;"), 1, 0, 6);
        CartTurns z = Check.on("figure f 0 0;figure g 3 4;");
        dueUndoes(z, 0, 0);
        dueUndoes(z, 1, 4, 6, 6);
    }

    private static void dueTracks(CartTurns x, int want, int... cells) {
        StringBuilder s = new StringBuilder();
        for (int c : cells) {
            s.append((char) c);
        }
        Check.put(x, s.toString());
        Check.due("tracks() of " + java.util.Arrays.toString(cells), x.tracks(), want);
        Check.due("bytes then", x.count(5), 0);
    }

    private static void tracks() {
        CartTurns x = Check.on("downs 5 5;figure a 1 1;figure b 2 0;figure c 4 2;figure d 0 1;figure e 0 0;figure g 0 0;"
            + "wall 1 0 1;person p 2 0 0 9;");
        Check.due("tells() ahead", x.tells(), -1);
        Check.due("tracksAt(0) ahead", x.tracksAt(0), -1);
        dueTracks(x, 2, 0, 0, 1, 0);
        Check.due("tells()", x.tells(), 0);
        dueTracks(x, 24, 0, 0, 1, 0, 1, 0);
        Check.due("tells()", x.tells(), 1);
        Check.due("tracksAt(0)", x.tracksAt(0), 0);
        Check.due("tracksAt(1)", x.tracksAt(1), 4);
        Check.due("tracksAt(2)", x.tracksAt(2), -1);
        Check.due("tracksAt(-1)", x.tracksAt(-1), -1);
        dueTracks(x, 2 * 1 * 2 * 2 * 12 * 12, 4, 4, 3, 4, 3, 2, 4, 2, 4, 3, 4, 3, 4, 3);
        int[] first = {2, 11, 0, 1, 4, 4};
        for (int k = 0; k < 6; k++) {
            Check.due("tracksAt(" + k + ")", x.tracksAt(k), first[k]);
        }
        Check.due("the first of like ones", x.tells(), 4);
        dueTracks(x, 0, 0, 0, 1, 1);
        dueTracks(x, 0, 0, 0, 3, 0);
        dueTracks(x, -1, 0, 0);
        Check.due("tells() stays", x.tells(), 4);
        Check.due("tracksAt(5) stays", x.tracksAt(5), 4);
    }

    private static void wrongTracks() {
        CartTurns x = Check.on("downs 5 3;figure a 0 0;figure b 0 0;figure c 0 0;figure d 0 0;figure e 0 0;figure g 0 0;");
        dueTracks(x, -1);
        dueTracks(x, -1, 0);
        dueTracks(x, -1, 0, 0, 0);
        dueTracks(x, -1, 0, 0, 0, 0, 0);
        dueTracks(x, -1, 5, 0, 5, 0);
        dueTracks(x, -1, 5, 0, 4, 0);
        dueTracks(x, -1, 0, 2, 0, 3);
        dueTracks(x, -1, 0, 3, 0, 3);
        dueTracks(x, -1, 0, 0, 0, 0, 255, 0);
        dueTracks(x, 191102976, 4, 2, 4, 2, 4, 2, 4, 2, 4, 2, 4, 2, 4, 2);
        dueTracks(x, -1, new int[16]);
        dueTracks(x, -1, new int[15]);
    }
}
