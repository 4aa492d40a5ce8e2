/** Promises 1 to 5 and 38: a new object, the tape, DOWNS and their FAULTS. */
public final class TextTest {
    public static void main(String[] args) {
        newObject();
        tape();
        bytesHighestFirst();
        readmeSample();
        sizes();
        tokens();
        numbers();
        names();
        cellsTwice();
        tooMany();
        ends();
        longTexts();
        staysOnFault();
        newDownsForgetTheOld();
        Check.finish("TextTest");
    }

    private static void newObject() {
        CartTurns x = new CartTurns();
        int[] counts = {6, 6, 0, 0, 0, 0, -1};
        for (int what = 0; what < counts.length; what++) {
            Check.due("new count(" + what + ")", x.count(what), counts[what]);
        }
        Check.due("count(-1)", x.count(-1), -1);
        Check.due("new fault()", x.fault(), 0);
        Check.due("new undo()", x.undo(), -1);
        Check.due("new cell(5, 5, 0)", x.cell(5, 5, 0), 0);
        Check.due("new cell(5, 6, 0)", x.cell(5, 6, 0), -1);
        Check.due("new now(5)", x.now(5), 0);
    }

    private static void tape() {
        CartTurns x = new CartTurns();
        for (int k = 1; k <= 47; k++) {
            Check.due("feed " + k, x.feed(0, 0, 0, 0, 0), 20 * k);
        }
        Check.due("feed beyond 940", x.feed(1, 1, 1, 1, 1), -1);
        Check.due("bytes then", x.count(5), 940);
        Check.due("end(941)", x.end(941), false);
        Check.due("end(-1)", x.end(-1), false);
        Check.due("bytes then", x.count(5), 940);
        Check.due("end(940)", x.end(940), true);
        Check.due("end(921)", x.end(921), true);
        Check.due("feed to 941", x.feed(0, 0, 0, 0, 0), -1);
        Check.due("end(920)", x.end(920), true);
        Check.due("feed to 940", x.feed(0, 0, 0, 0, 0), 940);
        Check.due("end(0)", x.end(0), true);
        Check.due("end(1)", x.end(1), false);
        Check.due("bytes then", x.count(5), 0);
    }

    private static void bytesHighestFirst() {
        CartTurns x = new CartTurns();
        // (4, 0), (3, 0), (2, 0), ... told by each of the five numbers; only ends by 14 bytes
        Check.due("feed", x.feed(0x04000300, 0x02000100, 0x00000001, 0x00020000, 0), 20);
        Check.due("end", x.end(14), true);
        Check.due("tracks() without FIGURES", x.tracks(), 0);
        // a byte over 127 is no cell, and none that is below 0
        x.feed(0x80008000, 0, 0, 0, 0);
        x.end(4);
        Check.due("tracks() of 128, 0", x.tracks(), -1);
    }

    private static void readmeSample() {
        CartTurns x = new CartTurns();
        x.feed(0x66696775, 0x72652079, 0x65732031, 0x20313b70, 0x6572736f);
        x.feed(0x6e20616e, 0x6e203020, 0x30203020, 0x393b0000, 0);
        x.end(34);
        Check.due("downs() of the README", x.downs(), 2);
        Check.due("say", x.say(0, 0, 0), 0);
        Check.due("person(0, 0)", x.person(0, 0), 1);
    }

    private static void fault(String text, int place, int kind) {
        Check.dueDowns(new CartTurns(), text, -1 - place, kind);
    }

    private static void good(String text, int lines) {
        Check.dueDowns(new CartTurns(), text, lines, 0);
    }

    private static void sizes() {
        good("", 0);
        good(" \n ", 0);
        good("downs 2 9;", 1);
        good("downs 9 2;", 1);
        fault("downs 1 9;", 6, 2);
        fault("downs 10 9;", 6, 2);
        fault("downs 9 10;", 8, 2);
        fault("downs 9 1;", 8, 2);
        good("figure a 1 1;downs 2 2;", 2);
        fault("downs 2 2;downs 2 2;", 10, 3);
        fault("wall 0 0 1;downs 2 2;", 11, 3);
        fault("point a 0 0 1;downs 2 2;", 14, 3);
        fault("person a 0 0 1 1;downs 2 2;", 17, 3);
        CartTurns x = Check.on("downs 3 7;");
        Check.due("WIDE", x.count(0), 3);
        Check.due("HIGH", x.count(1), 7);
        Check.due("downs() of nothing", x.downs(), 0);
        Check.due("WIDE", x.count(0), 6);
        Check.due("HIGH", x.count(1), 6);
    }

    private static void tokens() {
        good("downs\n5 4;wall 2 1 2 ; \n", 2);
        good("downs 05 004;", 1);
        fault("downs5 4;", 0, 1);
        fault("downs 5x 4;", 6, 1);
        fault("downs 0005 4;", 6, 1);
        fault("Downs 5 4;", 0, 1);
        fault("\tdowns 5 4;", 0, 1);
        fault("downs 5, 4;", 7, 1);
        fault("downs 5 4.", 9, 1);
        fault("downs 5 4;;", 10, 1);
        fault("downs 5;", 7, 1);
        fault("downs 5 4 3;", 10, 1);
        fault("downs x 4;", 6, 1);
        fault("figure 3 1 1;", 7, 1);
        fault("figures a 1 1;", 0, 1);
        fault("figure abcdefgh 1 1;", 7, 1);
        good("figure abcdefg 1 1;", 1);
        good("figure abc 1 1;figure b 1 1;", 2);
        fault("5 downs;", 0, 1);
        fault("ann;", 0, 1);
        fault("downs 5 4;\u00e9", 10, 1);
        fault("\u0000", 0, 1);
    }

    private static void numbers() {
        good("figure a 7 5;figure b 0 0;", 2);
        fault("figure a 8 5;", 9, 2);
        fault("figure a 7 6;", 11, 2);
        fault("wall 6 0 1;", 5, 2);
        fault("wall 0 6 1;", 7, 2);
        fault("wall 0 0 0;", 9, 2);
        fault("wall 0 0 10;", 9, 2);
        good("downs 9 9;wall 8 8 9;", 2);
        fault("downs 2 3;wall 2 0 1;", 15, 2);
        fault("downs 2 3;wall 1 3 1;", 17, 2);
        good("person a 5 5 3 60;person b 0 0 0 1;", 2);
        fault("person a 6 5 3 60;", 9, 2);
        fault("person a 5 6 3 60;", 11, 2);
        fault("person a 5 5 4 60;", 13, 2);
        fault("person a 5 5 3 61;", 15, 2);
        fault("person a 5 5 3 0;", 15, 2);
        good("point a 5 5 3;point b 5 5 3;", 2);
        fault("point a 6 5 3;", 8, 2);
        fault("point a 5 6 3;", 10, 2);
        fault("point a 5 5 4;", 12, 2);
    }

    private static void names() {
        fault("figure a 1 1;figure a 1 1;", 20, 3);
        fault("figure a 1 1;point a 1 1 1;", 19, 3);
        fault("figure a 1 1;person a 1 1 1 1;", 20, 3);
        fault("person a 0 0 0 1;point a 1 1 1;", 23, 3);
        String words = "downs wall figure person point says kicks rests hour east south west north or and not upright "
            + "spent settled has by breath up said number";
        for (String word : words.split(" ")) {
            fault("point " + word + " 0 0 0;", 6, 1);
        }
        good("point by 0 0 0;".replace("by", "bye"), 1);
        // a NAME told twice is ahead of a NUMBER that is not as told
        fault("figure a 1 1;figure a 9 9;", 20, 3);
    }

    private static void cellsTwice() {
        fault("wall 1 2 3;wall 1 2 3;", 18, 3);
        fault("wall 1 2 3;person a 1 2 0 1;", 22, 3);
        fault("person a 1 2 0 1;wall 1 2 3;", 24, 3);
        fault("person a 1 2 0 1;person b 1 2 0 1;", 28, 3);
        good("wall 1 2 3;point a 1 2 0;point b 1 2 0;", 3);
        good("point a 1 2 0;person b 1 2 0 1;", 2);
        // the FAULT at the Y is ahead of the N that is not as told
        fault("wall 1 2 3;wall 1 2 0;", 18, 3);
    }

    private static void tooMany() {
        StringBuilder figures = new StringBuilder();
        StringBuilder persons = new StringBuilder();
        StringBuilder points = new StringBuilder();
        for (int k = 0; k < 6; k++) {
            figures.append("figure f").append((char) ('a' + k)).append(" 1 1;");
        }
        for (int k = 0; k < 5; k++) {
            persons.append("person p").append((char) ('a' + k)).append(' ').append(k).append(" 0 0 9;");
            points.append("point q").append((char) ('a' + k)).append(" 0 0 0;");
        }
        good(figures + "" + persons + points, 16);
        fault(figures + "figure fz 1 1;", figures.length(), 4);
        fault(figures + "figure 9;", figures.length(), 4);
        fault(persons + "person pz 5 5 1 1;", persons.length(), 4);
        fault(points + "point qz 1 1 1;", points.length(), 4);
    }

    private static void ends() {
        fault("downs", 5, 1);
        fault("downs 5 4", 9, 1);
        fault("downs 5 4 \n ", 12, 1);
        fault("wall 0 0 1;figure", 17, 1);
        // what ends the text is read whole, be it as it may
        fault("downs 5 400", 8, 2);
    }

    private static void longTexts() {
        String walls = "wall 0 0 1;wall 1 0 1;";
        String to900 = walls + " ".repeat(900 - walls.length());
        good(to900, 2);
        fault(to900 + " ", 900, 1);
        fault(to900 + "wall 0 0 1;", 900, 1);
        // a TOKEN that begins ahead of 900 is read whole
        fault(to900.substring(0, 898) + "wall 0 0 1;", 900, 1);
        fault(to900.substring(0, 898) + "wallx 0 0 1;", 898, 1);
        fault(to900.substring(0, 894) + "wall 77 0 1;", 899, 2);
        fault(to900.substring(0, 893) + "figure abcdefgh 1;", 900, 1);
        fault(to900.substring(0, 892) + "figure abcdefgh 1;", 899, 1);
        fault(to900.substring(0, 892) + "wall 0 0 1;", 899, 3);
        fault(to900.substring(0, 892) + "wall 0 1 1;", 900, 1);
        fault("?" + to900, 0, 1);
    }

    private static void staysOnFault() {
        CartTurns x = Check.on("downs 4 3;person a 1 1 0 9;");
        Check.dueSentence(x, "upright", 1, 0);
        x.hours(3);
        Check.dueDowns(x, "downs 5 5;wall", -15, 1);
        Check.due("WIDE", x.count(0), 4);
        Check.due("PERSONS", x.count(3), 1);
        Check.due("HOUR", x.now(0), 3);
        Check.due("fault()", x.fault(), 1);
        Check.due("said(-1)", x.said(-1), 1);
        Check.due("undo()", x.undo(), 0);
    }

    private static void newDownsForgetTheOld() {
        CartTurns x = Check.on("person a 1 1 0 9;figure f 1 1;point q 2 1 1;wall 0 0 5;wall 3 1 1;");
        x.say(0, 0, 0);
        x.kick(0, 0);
        x.hours(9);
        Check.dueSentence(x, "upright", 1, 0);
        Check.dueDowns(x, "person b 1 1 0 9;point q 2 1 1;", 2, 0);
        int[] now = {0, 0, 0, 0, 0, 0, 1, 9};
        for (int what = 0; what < now.length; what++) {
            Check.due("now(" + what + ") of new DOWNS", x.now(what), now[what]);
        }
        Check.due("came up", x.person(0, 5), 0);
        Check.due("said", x.person(0, 6), 0);
        Check.due("no SENTENCE", x.said(-1), -1);
        Check.due("FIGURES", x.count(2), 0);
        Check.due("undo()", x.undo(), -1);
    }
}
