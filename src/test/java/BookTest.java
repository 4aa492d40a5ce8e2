/** Promises 32 and 33, and 5 for a BOOK: reading, judging, living, what is told of it. */
public final class BookTest {
    private static final String DOWNS = "downs 5 2;person a 0 0 0 9;person b 4 0 1 2;figure f 1 1;figure g 0 0;figure far 0 5;"
        + "wall 0 1 1;point p 1 0 1;point q 0 0 0;";

    public static void main(String[] args) {
        faults();
        lines();
        lengths();
        judging();
        living();
        reasons();
        hoursLeft();
        told();
        Check.finish("BookTest");
    }

    private static void fault(String text, int place, int kind) {
        Check.dueBook(Check.on(DOWNS), text, 0, -2 - place, kind);
        Check.dueBook(Check.on(DOWNS), text, 1, -2 - place, kind);
    }

    private static void faults() {
        fault("a", 1, 1);
        fault("a says", 6, 1);
        fault("a says f", 8, 1);
        fault("a says f east", 13, 1);
        fault("a says f east;b", 15, 1);
        fault("a says f left;", 9, 1);
        fault("a says f 0;", 9, 1);
        fault("a says east;", 7, 1);
        fault("a says 1 east;", 7, 1);
        fault("a says b east;", 7, 3);
        fault("a says p east;", 7, 3);
        fault("a says x east;", 7, 3);
        fault("f rests;", 0, 3);
        fault("p rests;", 0, 3);
        fault("x rests;", 0, 3);
        fault("says;", 0, 1);
        fault("up;", 0, 1);
        fault(";", 0, 1);
        fault("3;", 0, 1);
        fault("a rests;;", 8, 1);
        fault("a rest;", 2, 1);
        fault("a hour;", 2, 1);
        fault("a f east;", 2, 1);
        fault("a kicks;", 7, 1);
        fault("a kicks f;", 8, 1);
        fault("a rests a;", 8, 1);
        fault("hour;", 4, 1);
        fault("hour a;", 5, 1);
        fault("hour 0;", 5, 2);
        fault("hour 61;", 5, 2);
        fault("hour 060;hour 1000;", 14, 1);
        fault("hour1;", 0, 1);
        fault("a rests.", 7, 1);
    }

    private static void lines() {
        String most = "hour 1;".repeat(40);
        CartTurns x = Check.on(DOWNS);
        Check.dueBook(x, most, 0, -1, 0);
        Check.due("LINES", x.told(1), 40);
        fault(most + "hour 1;", 280, 4);
        fault(most + "a rests;", 280, 4);
        fault(most + "x rests;", 280, 3);
        fault(most + "f;", 280, 3);
        fault(most + "says;", 280, 1);
        fault(most + ";", 280, 1);
        fault(most + " \n?", 282, 1);
        fault(most + "hour 0;", 280, 4);
    }

    private static void lengths() {
        CartTurns x = Check.on(DOWNS);
        String to400 = "hour 1;" + " ".repeat(393);
        Check.dueBook(x, to400, 0, -1, 0);
        fault(to400 + " ", 400, 1);
        fault(to400 + "?", 400, 1);
        fault(to400 + "xyz rests;", 400, 1);
        fault(to400.substring(0, 398) + "hour 1;", 400, 1);
        fault(to400.substring(0, 398) + "hours 1;", 398, 3);
        fault(to400.substring(0, 398) + "abcdefgh;", 398, 1);
        fault(to400.substring(0, 394) + "hour 61;", 399, 2);
    }

    private static void judging() {
        CartTurns x = Check.on(DOWNS);
        Check.put(x, "hour 1;");
        Check.due("book(2)", x.book(2), -1000);
        Check.due("book(-1)", x.book(-1), -1000);
        Check.due("the tape stays", x.count(5), 7);
        Check.due("book(0)", x.book(0), -1);
        Check.due("HOUR", x.now(0), 0);
        Check.due("the HOUR then", x.told(2), 1);
        Check.dueBook(x, "a says f east;a kicks south;", 0, 1, 0);
        Check.due("X", x.person(0, 0), 0);
        Check.due("who is settled then", x.told(3), 1);
        Check.due("who is settled", x.now(5), 0);
        Check.dueBook(x, "?", 0, -2, 1);
        Check.put(x, "");
        Check.due("book(7)", x.book(7), -1000);
        Check.due("fault() stays", x.fault(), 1);
        Check.due("undo()", x.undo(), -1);
    }

    private static void living() {
        CartTurns x = Check.on(DOWNS);
        Check.dueBook(x, "a kicks south;a says f south;hour 2;b rests;a says f north;", 1, 3, 0);
        Check.due("why", x.told(0), 21);
        Check.due("lived", x.told(1), 3);
        Check.due("Y", x.person(0, 1), 1);
        Check.due("BREATH", x.person(0, 3), 8);
        Check.due("HOUR", x.now(0), 2);
        Check.due("kicks", x.now(3), 1);
        Check.due("undo()", x.undo(), 0);
        Check.due("Y", x.person(0, 1), 0);
        Check.dueBook(x, "a says f east;b says g north;b rests;", 1, -1, 0);
        Check.due("X", x.person(0, 0), 1);
        Check.due("settled", x.now(5), 1);
        Check.due("said", x.person(1, 6), 1);
        Check.due("BREATH of b", x.person(1, 3), 2);
        Check.due("undo()", x.undo(), 0);
    }

    private static void reason(String book, int line, int why) {
        CartTurns x = Check.on(DOWNS);
        Check.dueBook(x, book, 0, line, 0);
        Check.due("why in " + book, x.told(0), why);
    }

    private static void reasons() {
        reason("a says f west;", 0, 2);
        reason("a says f south;", 0, 3);
        reason("b says far west;", 0, 1);
        reason("a says far east;", 0, 2);
        reason("a says f east;a says f east;a says f east;a says f east;", 3, 4);
        reason("b says f east;", 0, 2);
        reason("b says f west;b says g west;", 1, 1);
        reason("b says f west;b kicks west;", 1, 11);
        reason("a kicks east;", 0, 12);
        reason("a kicks north;", 0, 12);
        reason("a kicks south;a kicks south;", 1, 12);
        reason("a rests;", 0, 21);
        reason("a kicks south;a rests;a rests;", 2, 21);
        reason("", -1, 0);
    }

    private static void hoursLeft() {
        CartTurns x = Check.on(DOWNS);
        Check.dueBook(x, "hour 60;".repeat(7), 1, 6, 0);
        Check.due("why", x.told(0), 31);
        Check.due("LINES that are not", x.told(1), 6);
        Check.due("HOUR", x.now(0), 360);
        Check.dueBook(x, "hour 40;", 1, -1, 0);
        Check.due("HOUR", x.now(0), 400);
        Check.dueBook(x, "a says f east;hour 1;", 1, 1, 0);
        Check.due("why", x.told(0), 31);
        Check.due("the HOUR then", x.told(2), 400);
        Check.due("undo()", x.undo(), 2);
        Check.due("undo()", x.undo(), 1);
        Check.due("HOUR", x.now(0), 360);
    }

    private static void told() {
        CartTurns x = Check.on(DOWNS);
        for (int what = -1; what < 5; what++) {
            Check.due("told(" + what + ") ahead of any", x.told(what), -1);
        }
        Check.dueBook(x, "hour", 0, -6, 1);
        Check.due("told(0) behind a FAULT alone", x.told(0), -1);
        Check.dueBook(x, "hour 5;a says f east;a says f north;", 0, 2, 0);
        int[] want = {2, 2, 5, 1, -1};
        dueTold(x, want);
        Check.due("told(-1)", x.told(-1), -1);
        Check.dueBook(x, "a", 1, -3, 1);
        dueTold(x, want);
        x.book(5);
        dueTold(x, want);
        Check.dueDowns(x, "", 0, 0);
        dueTold(x, want);
        Check.dueBook(x, "", 1, -1, 0);
        dueTold(x, new int[] {0, 0, 0, 0, -1});
    }

    private static void dueTold(CartTurns x, int[] want) {
        for (int what = 0; what < want.length; what++) {
            Check.due("told(" + what + ")", x.told(what), want[what]);
        }
    }
}
