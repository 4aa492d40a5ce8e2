/** Promises 36 and 37: images and what they leave. */
public final class ImageTest {
    private static final String DOWNS = "downs 5 3;person a 0 0 0 9;person b 4 2 1 9;wall 2 0 2;figure f 1 1;point p 1 0 1;";

    public static void main(String[] args) {
        wrongPlaces();
        allIsAsKept();
        theSentenceToo();
        twoPlaces();
        whatStays();
        Check.finish("ImageTest");
    }

    private static void wrongPlaces() {
        CartTurns x = Check.on(DOWNS);
        for (int k : new int[] {-1, 2, Integer.MIN_VALUE, Integer.MAX_VALUE}) {
            Check.due("image(" + k + ")", x.image(k), false);
            Check.due("restore(" + k + ")", x.restore(k), false);
        }
        Check.due("restore(0)", x.restore(0), false);
        Check.due("restore(1)", x.restore(1), false);
        Check.due("image(1)", x.image(1), true);
        Check.due("restore(0)", x.restore(0), false);
        Check.due("restore(1)", x.restore(1), true);
    }

    private static void allIsAsKept() {
        CartTurns x = Check.on(DOWNS);
        x.say(0, 0, 0);
        x.kick(0, 0);
        x.hours(5);
        Check.due("undo() of two more", x.undo(), 2);
        x.image(0);
        x.hours(7);
        x.kick(0, 0);
        x.say(0, 0, 0);
        Check.dueDowns(x, "downs 9 9;figure z 7 5;wall 8 8 8;", 3, 0);
        Check.due("restore(0)", x.restore(0), true);
        int[] counts = {5, 3, 1, 2, 1};
        for (int what = 0; what < counts.length; what++) {
            Check.due("count(" + what + ")", x.count(what), counts[what]);
        }
        int[] now = {0, 1, 1, 1, 0, 1, 0, 15};
        for (int what = 0; what < now.length; what++) {
            Check.due("now(" + what + ")", x.now(what), now[what]);
        }
        int[] a = {1, 0, 1, 6, 9, 1, 1};
        for (int what = 0; what < a.length; what++) {
            Check.due("person(0, " + what + ")", x.person(0, what), a[what]);
        }
        Check.due("figure(0, 2)", x.figure(0, 2), 2);
        Check.due("point(0, 3)", x.point(0, 3), 1);
        Check.due("cell(2, 0, 0)", x.cell(2, 0, 0), 1);
        Check.due("nothing can be undone", x.undo(), -1);
        Check.dueBook(x, "a says f east;", 0, 0, 0);
        Check.due("the wall bars", x.told(0), 3);
        Check.due("slip", x.slip(1), "b at 4 2 up 1".length());
        Check.due("his NAME", x.byteAt(0), 'b');
    }

    private static void theSentenceToo() {
        CartTurns x = Check.on(DOWNS);
        x.image(0);
        Check.dueSentence(x, "number=1", 1, 0);
        x.image(1);
        Check.dueSentence(x, "number<9", 1, 0);
        x.restore(0);
        Check.due("without one", x.said(-1), -1);
        x.restore(1);
        Check.due("with one", x.said(0), 1);
        Check.dueDowns(x, "", 0, 0);
        Check.due("new DOWNS have none", x.said(-1), -1);
        x.restore(1);
        Check.due("with one again", x.said(0), 1);
    }

    private static void twoPlaces() {
        CartTurns x = Check.on(DOWNS);
        x.image(0);
        x.hours(1);
        x.image(1);
        x.hours(1);
        x.restore(0);
        Check.due("HOUR of place 0", x.now(0), 0);
        x.hours(9);
        x.restore(1);
        Check.due("HOUR of place 1", x.now(0), 1);
        x.restore(0);
        Check.due("it stays kept", x.now(0), 0);
        x.hours(4);
        x.image(0);
        x.restore(1);
        x.restore(0);
        Check.due("kept anew", x.now(0), 4);
    }

    private static void whatStays() {
        CartTurns x = Check.on(DOWNS);
        x.image(0);
        Check.dueBook(x, "a says f east;a", 1, -17, 1);
        Check.dueBook(x, "hour 3;a says f north;", 1, 1, 0);
        x.way(0, 0);
        x.undoes(0);
        x.slip(0);
        Check.put(x, "\0\0\1\0");
        Check.due("tracks()", x.tracks(), 1);
        Check.dueSentence(x, "?", -1, 1);
        Check.put(x, "abc");
        x.restore(0);
        Check.due("the tape", x.count(5), 3);
        Check.due("fault()", x.fault(), 1);
        Check.due("told(2)", x.told(2), 3);
        Check.due("wayAt(0)", x.wayAt(0), 0);
        Check.due("undoesAt(2)", x.undoesAt(2), 2);
        Check.due("byteAt(0)", x.byteAt(0), 'a');
        Check.due("tracksAt(0)", x.tracksAt(0), 0);
        Check.due("tells()", x.tells(), 0);
    }
}
