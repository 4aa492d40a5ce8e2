import java.util.Arrays;

/** The edges of ways, sentence by sentence: WAY, BOTH, SEES, UNDOES, TRACKS, TELLS. */
public final class EdgesOfWaysTest {
    private static final int[] FAR_OFF = {Integer.MIN_VALUE, -2, -1, Integer.MAX_VALUE};

    public static void main(String[] args) {
        ways();
        waysNever();
        firstWays();
        waysAt();
        boths();
        sees();
        undoes();
        undoesAt();
        tracks();
        tracksNone();
        tracksAt();
        tells();
        Check.finish("EdgesOfWaysTest");
    }

    private static void dueWay(CartTurns x, int p, int q, int... want) {
        Check.due("way(" + p + ", " + q + ")", x.way(p, q), want.length);
        for (int k = 0; k < want.length; k++) {
            Check.due("wayAt(" + k + ")", x.wayAt(k), want[k]);
        }
        Check.due("wayAt(" + want.length + ")", x.wayAt(want.length), -1);
    }

    private static void dueUndoes(CartTurns x, int f, int... want) {
        Check.due("undoes(" + f + ")", x.undoes(f), want.length);
        for (int k = 0; k < want.length; k++) {
            Check.due("undoesAt(" + k + ")", x.undoesAt(k), want[k]);
        }
        Check.due("undoesAt(" + want.length + ")", x.undoesAt(want.length), -1);
    }

    private static void dueTracks(CartTurns x, int want, int... cells) {
        StringBuilder s = new StringBuilder();
        for (int c : cells) {
            s.append((char) c);
        }
        Check.put(x, s.toString());
        Check.due("tracks() of " + Arrays.toString(cells), x.tracks(), want);
        Check.due("bytes then", x.count(5), 0);
    }

    private static void ways() {
        Edge.of("the fewest FIGURES, BREATH no matter, others staying as they are,", () -> {
            CartTurns x = Check.on("downs 9 2;person a 0 0 0 1;figure one 0 1;figure five 7 5;point p 8 0 0;point q 8 0 3;");
            Check.due("he could not say it", x.could(0, 1), 0);
            // four of five CELLS turn him round: two of them on, one back, one on, and two steps back
            dueWay(x, 0, 0, 4, 2, 2, 4, 6, 4);
            dueWay(x, 0, 1, 0, 0, 0, 4);
            Check.due("BREATH", x.person(0, 3), 1);
            x.say(0, 0, 0);
            Check.due("he is spent", x.now(4), 1);
            dueWay(x, 0, 1, 0, 0, 4);
            // one in the row, and one in the cell
            CartTurns y = Check.on("downs 4 2;person a 0 0 0 9;person b 1 0 0 9;figure one 0 1;point p 2 0 0;point q 1 0 0;");
            dueWay(y, 0, 0, 1, 0, 0, 3);
            dueWay(y, 1, 0, 0);
            CartTurns z = Check.on("downs 4 2;person b 1 0 0 9;person a 0 0 0 9;figure one 0 1;point p 2 0 0;point q 1 0 0;");
            dueWay(z, 1, 0, 1, 0, 0, 3);
            Check.due("the first one is in the way, too", z.way(1, 1), -1);
            CartTurns corner = Check.on("downs 3 2;wall 0 0 1;person a 1 0 0 9;person b 1 1 0 9;figure one 0 1;point p 0 0 0;point q 0 1 0;");
            Check.due("a wall in the first cell", corner.way(0, 0), -1);
            Check.due("behind it", corner.way(0, 1), -1);
            Check.due("b stays there", y.way(0, 1), -1);
            Check.due("b is not gone", y.person(1, 0), 1);
        });
        Edge.of("behind which he is in its cell and its way up (0: he is);", () -> {
            CartTurns x = Check.on("person a 3 4 2 9;figure turn 1 0;point p 3 4 2;point q 3 4 3;point r 3 4 1;");
            dueWay(x, 0, 0);
            dueWay(x, 0, 1, 0);
            dueWay(x, 0, 2, 0, 0, 0);
            CartTurns y = Check.on("person a 0 0 0 9;point p 0 0 0;point q 0 0 1;");
            Check.due("he is, without FIGURES", y.way(0, 0), 0);
            Check.due("his way up is another", y.way(0, 1), -1);
        });
    }

    private static void waysNever() {
        Edge.of("WAY of a PERSON to a POINT: how many FIGURES; NONE: never, no such ones.", () -> {
            CartTurns x = Check.on("downs 5 5;person a 0 0 0 9;figure leap 2 2;point p 1 0 2;point q 2 0 0;point r 4 4 0;wall 4 4 1;"
                + "point s 2 0 2;");
            Check.due("a cell that no leap reaches", x.way(0, 0), -1);
            Check.due("a way up that he never has there", x.way(0, 1), -1);
            Check.due("a wall", x.way(0, 2), -1);
            Check.due("way(0, 3)", x.way(0, 3), 1);
            for (int wrong : FAR_OFF) {
                Check.due("way(" + wrong + ", 0)", x.way(wrong, 0), -1);
                Check.due("way(0, " + wrong + ")", x.way(0, wrong), -1);
            }
            Check.due("way(1, 3)", x.way(1, 3), -1);
            Check.due("way(0, 4)", x.way(0, 4), -1);
            CartTurns gone = Check.on("downs 3 2;person a 0 0 0 9;wall 1 0 1;wall 0 1 1;wall 1 1 1;figure f 0 1;point p 1 0 0;");
            Check.due("a wall is there", gone.way(0, 0), -1);
            gone.kick(0, 0);
            Check.due("it is kicked away", gone.way(0, 0), 1);
        });
        Edge.of("others staying as they are, behind which he is in its cell and its way up", () -> {
            // walls, PERSONS and the rim are on the way of leaps, too
            String row = "downs 6 2;person a 0 0 0 9;figure leap 0 3;point p 3 0 0;point q 5 0 0;";
            Check.due("free", Check.on(row).way(0, 0), 1);
            Check.due("the rim", Check.on(row).way(0, 1), -1);
            for (int far = 1; far <= 4; far++) {
                Check.due("a wall at " + far, Check.on(row + "wall " + far + " 0 1;").way(0, 0), far <= 3 ? -1 : 1);
                Check.due("one at " + far, Check.on(row + "person b " + far + " 0 0 1;").way(0, 0), far <= 3 ? -1 : 1);
            }
        });
    }

    private static void firstWays() {
        Edge.of("of like ones the first: FIGURE by FIGURE the least FIGURE, then the least SIDE.", () -> {
            CartTurns x = Check.on("downs 5 5;person a 2 2 0 9;figure f 0 1;figure g 4 1;figure h 0 2;point p 3 3 0;point q 1 1 0;"
                + "point r 3 2 0;point s 2 2 0;");
            dueWay(x, 0, 0, 0, 1);
            dueWay(x, 0, 1, 2, 3);
            dueWay(x, 0, 2, 0);
            // the FIGURES in their other order
            CartTurns y = Check.on("downs 5 5;person a 2 2 0 9;figure h 0 2;figure g 4 1;figure f 0 1;point p 3 3 0;point q 3 4 0;");
            dueWay(y, 0, 0, 4, 5);
            dueWay(y, 0, 1, 1, 4);
            // what turns to any SIDE turns to the east
            CartTurns z = Check.on("person a 0 0 0 9;figure f 3 0;figure g 2 0;figure h 1 0;point p 0 0 2;point q 0 0 1;point r 0 0 3;");
            dueWay(z, 0, 0, 4);
            dueWay(z, 0, 1, 8);
            dueWay(z, 0, 2, 0);
            // where nothing is on the way, no SIDE is barred
            CartTurns shut = Check.on("downs 2 2;wall 0 1 1;person b 1 0 0 1;person a 1 1 0 9;figure f 1 0;point p 1 1 2;");
            dueWay(shut, 1, 0, 0, 0);
            // at the rim the first SIDE can't be
            CartTurns w = Check.on("downs 5 5;person a 4 4 0 9;figure f 1 1;point p 4 4 2;");
            dueWay(w, 0, 0, 2, 0);
        });
    }

    private static void waysAt() {
        Edge.of("The k-th of them (from 0) by the latest way() that was not NONE: 4 by FIGURE and SIDE; NONE: none such, or ahead of any.", () -> {
            CartTurns x = Check.on("downs 5 5;person a 0 0 0 9;person b 4 4 0 9;figure f 1 0;figure g 0 1;point p 0 2 0;point q 4 4 0;point r 0 0 0;");
            for (int k = -1; k < 3; k++) {
                Check.due("wayAt(" + k + ") ahead of any", x.wayAt(k), -1);
            }
            dueWay(x, 0, 0, 5, 5);
            for (int wrong : FAR_OFF) {
                Check.due("wayAt(" + wrong + ")", x.wayAt(wrong), -1);
            }
            Check.due("way() that is NONE", x.way(0, 1), -1);
            Check.due("way() that is NONE", x.way(0, 9), -1);
            Check.due("both()", x.both(0, 1, 2), 8);
            Check.due("sees()", x.sees(0), 24);
            Check.due("wayAt(1) stays", x.wayAt(1), 5);
            Check.due("wayAt(2) stays", x.wayAt(2), -1);
            Check.due("way() of 0", x.way(0, 2), 0);
            Check.due("wayAt(0) of 0", x.wayAt(0), -1);
        });
        Edge.of("WAY of a PERSON to a POINT: the fewest FIGURES", () -> {
            // a snake through all of 9 by 9: the longest way that walls can make here
            StringBuilder s = new StringBuilder("downs 9 9;");
            for (int y = 1; y < 9; y += 2) {
                for (int k = 0; k < 8; k++) {
                    s.append("wall ").append(y % 4 == 1 ? k : k + 1).append(' ').append(y).append(" 1;");
                }
            }
            CartTurns x = Check.on(s + "person a 0 0 0 1;figure f 1 1;figure g 0 0;point p 8 8 0;");
            Check.due("48 steps of one quarter", x.way(0, 0), 48);
            for (int k = 0; k < 48; k++) {
                int want = k % 10 < 8 ? k / 10 % 2 == 0 ? 0 : 2 : 1;
                Check.due("wayAt(" + k + ")", x.wayAt(k), want);
            }
            Check.due("wayAt(48)", x.wayAt(48), -1);
            Check.due("sees(0)", x.sees(0), 49);
        });
    }

    private static void boths() {
        Edge.of("BOTH of two PERSONS to a POINT: the greater number of both WAYS, each by himself, walls and all other PERSONS but these two in the way.", () -> {
            CartTurns x = Check.on("downs 6 2;person a 0 0 0 1;person b 1 0 0 1;person c 5 0 0 1;person d 1 1 0 1;wall 4 1 1;figure f 0 1;"
                + "point p 2 0 0;point q 1 0 0;point r 5 0 0;point s 4 1 0;point t 1 1 0;");
            Check.due("through one another", x.both(0, 1, 0), 2);
            Check.due("the other way round", x.both(1, 0, 0), 2);
            Check.due("the farther one is o", x.both(1, 2, 0), 3);
            Check.due("the farther one is p", x.both(2, 1, 0), 3);
            Check.due("another one is in a's way", x.both(0, 2, 0), -1);
            Check.due("one of them is there", x.both(0, 1, 1), 1);
            Check.due("another one is there", x.both(0, 2, 1), -1);
            Check.due("a wall is there", x.both(0, 1, 3), -1);
            Check.due("only one of them can", x.both(1, 2, 4), -1);
            Check.due("neither moved", x.person(0, 0) + x.person(1, 0), 1);
        });
        Edge.of("BOTH of two unlike PERSONS to a POINT: how many FIGURES; NONE: never, alike, no such ones.", () -> {
            CartTurns x = Check.on("person a 0 0 0 1;person b 1 0 0 1;figure f 0 1;point p 0 0 0;");
            Check.due("both(0, 1, 0)", x.both(0, 1, 0), 1);
            Check.due("both(0, 0, 0)", x.both(0, 0, 0), -1);
            Check.due("both(1, 1, 0)", x.both(1, 1, 0), -1);
            for (int wrong : new int[] {Integer.MIN_VALUE, -1, 2, Integer.MAX_VALUE}) {
                Check.due("both(" + wrong + ", 0, 0)", x.both(wrong, 0, 0), -1);
                Check.due("both(0, " + wrong + ", 0)", x.both(0, wrong, 0), -1);
                Check.due("both(0, 1, " + wrong + ")", x.both(0, 1, wrong), -1);
            }
            Check.due("both(0, 1, 1)", x.both(0, 1, 1), -1);
            Check.due("never", Check.on("person a 0 0 0 1;person b 1 0 0 1;point p 0 0 0;").both(0, 1, 0), -1);
        });
    }

    private static void sees() {
        Edge.of("in how many cells he can be behind any FIGURES likewise (his own one, too).", () -> {
            Check.due("no FIGURES", Check.on("person a 0 0 0 1;").sees(0), 1);
            for (int up = 1; up < 4; up++) {
                Check.due("with UP " + up, Check.on("person a 0 0 " + up + " 1;").sees(0), 1);
                Check.due("by fours", Check.on("downs 2 2;person a 0 0 " + up + " 1;figure f 4 1;").sees(0), 4);
            }
            Check.due("the first one is in the way", Check.on("downs 2 2;person b 1 1 0 1;person a 0 0 0 1;figure f 3 1;").sees(1), 3);
            Check.due("a wall in the first cell", Check.on("downs 2 2;wall 0 0 1;person a 1 1 0 1;figure f 3 1;").sees(0), 3);
            Check.due("only turning", Check.on("person a 0 0 0 1;figure f 1 0;").sees(0), 1);
            Check.due("shut in", Check.on("person a 0 0 0 1;figure f 1 1;wall 1 0 1;wall 0 1 1;").sees(0), 1);
            Check.due("shut in by others", Check.on("person a 0 0 0 1;figure f 1 1;person b 1 0 0 1;person c 0 1 0 1;").sees(0), 1);
            Check.due("all cells", Check.on("downs 9 9;person a 4 4 0 1;figure f 0 1;").sees(0), 81);
            Check.due("the fewest cells", Check.on("downs 2 2;person a 0 0 0 1;figure f 3 1;").sees(0), 4);
            Check.due("but for another one's", Check.on("downs 2 2;person a 0 0 0 1;person b 1 1 0 1;figure f 3 1;").sees(0), 3);
            Check.due("too far for 5", Check.on("downs 5 5;person a 0 0 0 1;figure f 0 5;").sees(0), 1);
            Check.due("5 on", Check.on("downs 6 6;person a 0 0 0 1;figure f 0 5;").sees(0), 4);
        });
        Edge.of("SEES of a PERSON: how many cells; NONE: no such one.", () -> {
            CartTurns x = Check.on("person a 0 0 0 1;figure f 0 1;");
            Check.due("sees(0)", x.sees(0), 36);
            Check.due("sees(1)", x.sees(1), -1);
            for (int wrong : FAR_OFF) {
                Check.due("sees(" + wrong + ")", x.sees(wrong), -1);
            }
        });
    }

    private static void undoes() {
        Edge.of("the fewest FIGURES (1 to 3) behind it by which one is as he was ahead of it, without rims, walls, PERSONS;", () -> {
            dueUndoes(Check.on("figure f 0 0;"), 0, 0);
            dueUndoes(Check.on("figure f 2 5;"), 0, 2);
            dueUndoes(Check.on("figure f 2 0;"), 0, 0);
            dueUndoes(Check.on("figure f 1 1;figure g 3 1;"), 0, 6);
            dueUndoes(Check.on("figure f 7 1;figure g 5 1;"), 0, 6);
            dueUndoes(Check.on("figure f 7 1;figure g 6 1;figure h 3 0;"), 0, 6, 8);
            dueUndoes(Check.on("figure f 1 5;"), 0, 0, 2, 2);
            dueUndoes(Check.on("figure f 3 0;"), 0, 0, 0, 0);
            // no rim, wall or PERSON is in the way
            dueUndoes(Check.on("downs 2 2;wall 0 0 1;person a 1 1 0 1;figure f 4 5;"), 0, 2);
            dueUndoes(Check.on("downs 2 2;figure f 2 5;figure g 1 3;figure h 1 2;"), 0, 2);
            // not the least number of cells, but of FIGURES
            dueUndoes(Check.on("figure f 3 4;figure g 1 2;figure h 0 1;figure i 1 4;"), 0, 14);
        });
        Edge.of("of like ones the first as for WAY.", () -> {
            dueUndoes(Check.on("figure f 0 2;figure g 4 2;"), 1, 2);
            dueUndoes(Check.on("figure f 0 2;figure g 4 1;figure h 0 1;figure i 1 2;figure k 1 0;"), 3, 12, 14, 14);
            dueUndoes(Check.on("figure f 1 1;figure g 1 2;figure h 2 0;"), 1, 6, 8);
            dueUndoes(Check.on("figure h 2 0;figure f 1 1;figure g 1 2;"), 2, 0, 10);
            dueUndoes(Check.on("figure f 1 1;figure g 1 2;figure h 1 0;"), 1, 0, 2, 6);
        });
    }

    private static void undoesAt() {
        Edge.of("UNDOES of a FIGURE: how many; NONE: not by 3, no such one.", () -> {
            CartTurns x = Check.on("figure f 2 1;");
            dueUndoes(x, 0, 2);
            Check.due("undoes(1)", x.undoes(1), -1);
            for (int wrong : FAR_OFF) {
                Check.due("undoes(" + wrong + ")", x.undoes(wrong), -1);
            }
            Check.due("a new undoes(0)", new CartTurns().undoes(0), -1);
        });
        Edge.of("by the latest undoes() that was not NONE: 4 by FIGURE and SIDE; NONE: none such, or ahead of any.", () -> {
            CartTurns x = Check.on("figure f 1 1;figure g 4 3;");
            for (int k = -1; k < 4; k++) {
                Check.due("undoesAt(" + k + ") ahead of any", x.undoesAt(k), -1);
            }
            dueUndoes(x, 0, 0, 2, 2);
            for (int wrong : FAR_OFF) {
                Check.due("undoesAt(" + wrong + ")", x.undoesAt(wrong), -1);
            }
            dueUndoes(x, 1, 6);
            Check.due("undoesAt(1) of the one ahead", x.undoesAt(1), -1);
            Check.due("undoes(2)", x.undoes(2), -1);
            Check.due("undoesAt(0) stays", x.undoesAt(0), 6);
            Check.dueDowns(x, "", 0, 0);
            Check.due("undoes(0)", x.undoes(0), -1);
            Check.due("undoesAt(0) stays", x.undoesAt(0), 6);
        });
    }

    private static void tracks() {
        Edge.of("TRACKS by the tape (pairs of bytes X, Y: 2 to 7 cells):", () -> {
            CartTurns x = Check.on("downs 9 9;figure f 0 1;");
            dueTracks(x, -1);
            dueTracks(x, -1, 0);
            dueTracks(x, -1, 0, 0);
            dueTracks(x, -1, 0, 0, 1);
            dueTracks(x, 1, 0, 0, 1, 0);
            dueTracks(x, -1, 0, 0, 1, 0, 2);
            dueTracks(x, 1, 0, 0, 1, 0, 2, 0, 3, 0, 4, 0, 5, 0, 6, 0);
            dueTracks(x, -1, 0, 0, 1, 0, 2, 0, 3, 0, 4, 0, 5, 0, 6, 0, 7);
            dueTracks(x, -1, 0, 0, 1, 0, 2, 0, 3, 0, 4, 0, 5, 0, 6, 0, 7, 0);
            dueTracks(x, -1, new int[940]);
        });
        Edge.of("in how many ways by FIGURES and SIDES, one for each step, one can have gone from each cell to the next (walls, PERSONS, UP no matter).", () -> {
            CartTurns x = Check.on("downs 9 9;figure a 0 0;figure b 1 1;figure c 2 1;figure d 3 5;wall 1 0 9;person p 2 0 0 1;");
            dueTracks(x, 4, 0, 0, 0, 0);
            dueTracks(x, 2, 0, 0, 1, 0);
            dueTracks(x, 2, 1, 0, 2, 0);
            dueTracks(x, 1, 8, 8, 3, 8);
            dueTracks(x, 0, 0, 0, 2, 0);
            dueTracks(x, 0, 0, 0, 6, 0);
            dueTracks(x, 0, 0, 0, 1, 1);
            dueTracks(x, 0, 0, 0, 1, 0, 3, 0);
            dueTracks(x, 16, 0, 0, 0, 0, 0, 0);
            dueTracks(x, 64, 4, 4, 5, 4, 4, 4, 4, 5, 4, 4, 4, 5, 4, 4);
            CartTurns most = Check.on("downs 2 2;figure a 0 0;figure b 0 0;figure c 0 0;figure d 0 0;figure e 0 0;figure f 0 0;");
            dueTracks(most, 24 * 24 * 24 * 24 * 24 * 24, 1, 1, 1, 1, 1, 1, 1, 1, 1, 1, 1, 1, 1, 1);
            dueTracks(new CartTurns(), 0, 0, 0, 0, 0);
        });
    }

    private static void tracksNone() {
        Edge.of("TRACKS: how many ways; NONE: not as told (a cell beyond the rim, too).", () -> {
            CartTurns x = Check.on("downs 3 5;figure f 0 1;figure g 0 0;");
            dueTracks(x, 1, 2, 4, 2, 3);
            dueTracks(x, -1, 3, 4, 2, 4);
            dueTracks(x, -1, 2, 4, 3, 4);
            dueTracks(x, -1, 2, 5, 2, 4);
            dueTracks(x, -1, 2, 4, 2, 5);
            dueTracks(x, -1, 3, 0, 3, 0);
            dueTracks(x, -1, 0, 0, 0, 255);
            dueTracks(x, -1, 128, 0, 128, 0);
            // beyond the rim is told ahead of a step that can't be
            dueTracks(x, -1, 0, 0, 2, 4, 3, 4);
        });
    }

    private static void tracksAt() {
        Edge.of("The first FIGURE and SIDE of a step (from 0): 4 by FIGURE and SIDE, by the latest tracks() above 0; NONE: none such, or ahead of any.", () -> {
            CartTurns x = Check.on("downs 9 9;figure a 0 2;figure b 0 1;figure c 4 1;figure d 0 0;");
            for (int k = -1; k < 7; k++) {
                Check.due("tracksAt(" + k + ") ahead of any", x.tracksAt(k), -1);
            }
            dueTracks(x, 0, 0, 0, 8, 8);
            Check.due("tracksAt(0) ahead of any above 0", x.tracksAt(0), -1);
            dueTracks(x, 2 * 2 * 2 * 2 * 4 * 1, 4, 4, 5, 4, 5, 5, 4, 5, 4, 4, 4, 4, 6, 4);
            int[] first = {4, 5, 6, 7, 12, 0, -1};
            for (int k = 0; k < first.length; k++) {
                Check.due("tracksAt(" + k + ")", x.tracksAt(k), first[k]);
            }
            for (int wrong : FAR_OFF) {
                Check.due("tracksAt(" + wrong + ")", x.tracksAt(wrong), -1);
            }
            dueTracks(x, 0, 0, 0, 0, 0, 8, 8);
            dueTracks(x, -1, 0, 0);
            Check.due("tracksAt(0) stays", x.tracksAt(0), 4);
            Check.due("tracksAt(5) stays", x.tracksAt(5), 0);
            dueTracks(x, 4, 0, 0, 0, 0);
            Check.due("tracksAt(0)", x.tracksAt(0), 12);
            Check.due("tracksAt(1)", x.tracksAt(1), -1);
            dueTracks(x, 1, 0, 0, 0, 2);
            Check.due("one way is above 0", x.tracksAt(0), 1);
        });
    }

    private static void tells() {
        Edge.of("TELLS: the step (from 0) that has the most FIGURES and SIDES by which it can be (of like ones the first).", () -> {
            CartTurns x = Check.on("downs 9 9;figure a 0 2;figure b 0 1;figure c 4 1;figure d 0 0;");
            dueTracks(x, 2, 0, 0, 1, 0);
            Check.due("one step", x.tells(), 0);
            dueTracks(x, 4, 0, 0, 1, 0, 0, 0);
            Check.due("two like ones", x.tells(), 0);
            dueTracks(x, 2, 0, 0, 2, 0, 3, 0);
            Check.due("the second has more", x.tells(), 1);
            dueTracks(x, 2 * 4 * 4, 0, 0, 1, 0, 1, 0, 1, 0);
            Check.due("the first of like ones", x.tells(), 1);
            dueTracks(x, 2 * 2 * 2 * 2 * 2 * 4, 0, 0, 1, 0, 2, 0, 3, 0, 4, 0, 5, 0, 5, 0);
            Check.due("the last of six", x.tells(), 5);
        });
        Edge.of("TELLS by the latest tracks() above 0; NONE ahead of any.", () -> {
            CartTurns x = Check.on("downs 9 9;figure a 0 2;figure b 0 1;figure d 0 0;");
            Check.due("ahead of any", x.tells(), -1);
            dueTracks(x, 0, 0, 0, 8, 8);
            dueTracks(x, -1, 0, 0);
            Check.due("ahead of any above 0", x.tells(), -1);
            dueTracks(x, 1, 0, 0, 0, 2);
            Check.due("one way is above 0", x.tells(), 0);
            dueTracks(x, 4, 0, 0, 1, 0, 1, 0);
            Check.due("tells()", x.tells(), 1);
            dueTracks(x, 0, 0, 0, 0, 0, 8, 8);
            dueTracks(x, -1, 9, 9, 0, 0);
            Check.due("tells() stays", x.tells(), 1);
            Check.dueDowns(x, "", 0, 0);
            Check.due("tells() stays", x.tells(), 1);
        });
    }
}
