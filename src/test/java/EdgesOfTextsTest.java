/** The edges of texts, sentence by sentence: TOKENS, DOWNS, BOOKS, SENTENCES and their FAULTS. */
public final class EdgesOfTextsTest {
    private static final String KNOWN = "downs 5 2;person a 0 0 0 9;person b 4 0 1 2;figure f 1 1;point p 1 0 1;";
    private static final String WORDS = "downs wall figure person point says kicks rests hour east south west north "
        + "or and not upright spent settled has by breath up said number";

    public static void main(String[] args) {
        tokens();
        downsLines();
        downsNumbers();
        downsCells();
        names();
        books();
        sentences();
        sentencesWithin();
        faultsOfTokens();
        faultsOfLength();
        faultsOfNumbersAndNames();
        faultsOfTooMany();
        Check.finish("EdgesOfTextsTest");
    }

    private static void good(String text, int lines) {
        Check.dueDowns(new CartTurns(), text, lines, 0);
    }

    private static void fault(String text, int place, int kind) {
        Check.dueDowns(new CartTurns(), text, -1 - place, kind);
    }

    private static void goodBook(String text) {
        Check.dueBook(Check.on(KNOWN), text, 0, -1, 0);
    }

    private static void bookFault(String text, int place, int kind) {
        Check.dueBook(Check.on(KNOWN), text, 0, -2 - place, kind);
    }

    private static void goodSentence(String text, int ones) {
        Check.dueSentence(Check.on(KNOWN), text, ones, 0);
    }

    private static void sentenceFault(String text, int place, int kind) {
        Check.dueSentence(Check.on(KNOWN), text, -1 - place, kind);
    }

    /** A text that ends in so many blanks that it has the bytes wanted. */
    private static String filled(String text, int bytes) {
        return text + " ".repeat(bytes - text.length());
    }

    private static void tokens() {
        Edge.of("with blanks (32, 10) between them or not", () -> {
            good("downs 5 4;wall 0 0 1;", 2);
            good("\n downs\n5 \n4\n; \nwall  0 0 1 ;\n\n", 2);
            goodSentence("(up<1)and(up=0)or(number>3)", 6);
            goodSentence("\n( \nup\n <\n1 \n)", 2);
            for (int b = 0; b < 256; b++) {
                String text = "downs 2 2;" + (char) b + "figure a 1 1;";
                if (b == 32 || b == 10) {
                    good(text, 2);
                } else {
                    fault(text, 10, 1);
                }
            }
        });
        Edge.of("WORDS: small letters, 1 to 7;", () -> {
            good("figure a 0 0;", 1);
            good("figure z 0 0;", 1);
            good("figure abcdefg 0 0;", 1);
            good("figure tuvwxyz 0 0;", 1);
            fault("figure abcdefgh 0 0;", 7, 1);
            fault("figure " + "a".repeat(26) + " 0 0;", 7, 1);
            fault("figure A 0 0;", 7, 1);
            fault("figure Z 0 0;", 7, 1);
            fault("figure ` 0 0;", 7, 1);
            fault("figure { 0 0;", 7, 1);
            fault("figure aB 0 0;", 8, 1);
            fault("downsdowns 2 2;", 0, 1);
        });
        Edge.of("NUMBERS: 1 to 3 digits;", () -> {
            good("figure a 0 0;", 1);
            good("figure a 07 005;", 1);
            good("figure a 000 00;", 1);
            fault("figure a 0007 5;", 9, 1);
            fault("figure a 7 0005;", 11, 1);
            fault("figure a 4294967296 5;", 9, 1);
            fault("figure a / 5;", 9, 1);
            fault("figure a : 5;", 9, 1);
            fault("figure a -1 5;", 9, 1);
            goodSentence("breath<999", 1);
            sentenceFault("breath<1000", 7, 1);
        });
        Edge.of("; < = > ( ) .", () -> {
            goodSentence("(up<1 or up=1 or up>1)", 4);
            goodBook("hour 1;");
            for (char sign : ";<=>.!,:?[{'*".toCharArray()) {
                sentenceFault(sign + "up=1", 0, 1);
                sentenceFault("up=1" + sign, 4, 1);
            }
            for (char sign : "();:?!.".toCharArray()) {
                sentenceFault("up" + sign + "1", 2, 1);
            }
            for (char sign : "<=>().:".toCharArray()) {
                bookFault("hour 1" + sign, 6, 1);
            }
        });
        Edge.of("(A WORD, NUMBER goes on as long as small letters and digits do; what is not as told is no TOKEN.)", () -> {
            fault("downs2 2;", 0, 1);
            fault("downs 2x 2;", 6, 1);
            fault("downs 2 2x;", 8, 1);
            fault("figure a1 0 0;", 7, 1);
            fault("figure 1a 0 0;", 7, 1);
            fault("figure a 0 0figure", 11, 1);
            bookFault("hour1;", 0, 1);
            sentenceFault("up=1or up=2", 3, 1);
            // a sign ends them
            good("downs 2 2;figure a 0 0;", 2);
            goodSentence("spent and(up=2)and spent", 4);
        });
    }

    private static void downsLines() {
        Edge.of("DOWNS are a text of at most 900 bytes: { LINE ; }.", () -> {
            good("", 0);
            good(" ", 0);
            good(" ".repeat(900), 0);
            fault(" ".repeat(901), 900, 1);
            fault(" ".repeat(940), 900, 1);
            good(filled("downs 2 2;", 900), 1);
            good(" ".repeat(890) + "downs 2 2;", 1);
            fault(" ".repeat(891) + "downs 2 2;", 900, 1);
            fault(";", 0, 1);
            fault("downs 2 2", 9, 1);
            fault("downs 2 2 wall 0 0 1;", 10, 1);
            fault("downs 2 2;;", 10, 1);
            fault("downs;", 5, 1);
        });
        Edge.of("'downs' WIDE HIGH (2 to 9 each; once, ahead of all with X, Y; 6 by 6 without)", () -> {
            good("downs 2 2;", 1);
            good("downs 9 9;", 1);
            fault("downs 1 2;", 6, 2);
            fault("downs 0 2;", 6, 2);
            fault("downs 10 2;", 6, 2);
            fault("downs 2 1;", 8, 2);
            fault("downs 2 0;", 8, 2);
            fault("downs 2 10;", 8, 2);
            fault("downs 3 4;downs 3 4;", 10, 3);
            fault("downs 3 4;figure a 0 0;downs 3 4;", 23, 3);
            good("figure a 0 0;downs 3 4;wall 2 3 1;", 3);
            fault("wall 0 0 1;downs 3 4;", 11, 3);
            fault("person a 0 0 0 1;downs 3 4;", 17, 3);
            fault("point a 0 0 0;downs 3 4;", 14, 3);
            good("wall 5 5 1;", 1);
            fault("wall 6 5 1;", 5, 2);
            fault("wall 5 6 1;", 7, 2);
            CartTurns x = Check.on("downs 9 2;");
            Check.dueDowns(x, "wall 5 5 1;", 1, 0);
            Check.due("WIDE", x.count(0), 6);
            Check.due("HIGH", x.count(1), 6);
        });
    }

    private static void downsNumbers() {
        Edge.of("'wall' X Y N (1 to 9; each cell once)", () -> {
            good("wall 0 0 1;wall 0 1 9;", 2);
            fault("wall 0 0 0;", 9, 2);
            fault("wall 0 0 10;", 9, 2);
            fault("wall 0 0 1;wall 0 0 1;", 18, 3);
            good("downs 2 2;wall 0 0 1;wall 0 1 1;wall 1 0 1;wall 1 1 1;", 5);
            StringBuilder all = new StringBuilder("downs 9 9;");
            for (int k = 0; k < 80; k++) {
                all.append("wall ").append(k % 9).append(' ').append(k / 9).append(" 9;");
            }
            CartTurns x = Check.on(all.toString());
            Check.due("all walls", x.now(1), 720);
            Check.due("the last wall", x.cell(7, 8, 0), 9);
            Check.due("no wall", x.cell(8, 8, 0), 0);
        });
        Edge.of("'figure' NAME QUARTERS CELLS (0 to 7; 0 to 5)", () -> {
            good("figure a 0 0;figure b 7 5;", 2);
            fault("figure a 8 0;", 9, 2);
            fault("figure a 0 6;", 11, 2);
            fault("figure a 999 0;", 9, 2);
            CartTurns x = Check.on("figure a 0 5;figure b 7 0;");
            Check.due("QUARTERS", x.figure(0, 0), 0);
            Check.due("CELLS", x.figure(0, 1), 5);
            Check.due("QUARTERS", x.figure(1, 0), 7);
            Check.due("CELLS", x.figure(1, 1), 0);
        });
        Edge.of("'person' NAME X Y UP BREATH (0 to 3 quarters from his feet on; 1 to 60: as much as he has at most, and at first)", () -> {
            good("person a 0 0 0 1;person b 5 5 3 60;", 2);
            fault("person a 0 0 4 1;", 13, 2);
            fault("person a 0 0 0 0;", 15, 2);
            fault("person a 0 0 0 61;", 15, 2);
            CartTurns x = Check.on("person a 0 0 3 60;person b 1 0 0 1;");
            Check.due("UP", x.person(0, 2), 3);
            Check.due("BREATH", x.person(0, 3), 60);
            Check.due("at most", x.person(0, 4), 60);
            Check.due("BREATH", x.person(1, 3), 1);
            Check.due("at most", x.person(1, 4), 1);
        });
        Edge.of("'point' NAME X Y UP.", () -> {
            good("point a 0 0 0;point b 5 5 3;", 2);
            fault("point a 0 0 4;", 12, 2);
            fault("point a 0 0;", 11, 1);
            fault("point a 0 0 0 1;", 14, 1);
        });
    }

    private static void downsCells() {
        Edge.of("X 0 to WIDE less 1, Y 0 to HIGH less 1", () -> {
            String size = "downs 3 8;";
            good(size + "wall 2 7 1;", 2);
            fault(size + "wall 3 7 1;", 15, 2);
            fault(size + "wall 2 8 1;", 17, 2);
            good(size + "person a 2 7 0 1;", 2);
            fault(size + "person a 3 7 0 1;", 19, 2);
            fault(size + "person a 2 8 0 1;", 21, 2);
            good(size + "point a 2 7 0;", 2);
            fault(size + "point a 3 7 0;", 18, 2);
            fault(size + "point a 2 8 0;", 20, 2);
        });
        Edge.of("no PERSON is told where a wall or another one is, no wall where a PERSON is.", () -> {
            fault("wall 3 4 1;person a 3 4 0 1;", 22, 3);
            fault("person a 3 4 0 1;person b 3 4 0 1;", 28, 3);
            fault("person a 3 4 0 1;wall 3 4 1;", 24, 3);
            good("wall 3 4 1;person a 4 3 0 1;person b 3 3 0 1;wall 4 4 1;", 4);
            // a POINT may be told anywhere
            good("wall 3 4 1;point p 3 4 0;person a 0 0 0 1;point q 0 0 0;point r 0 0 0;", 5);
        });
    }

    private static void names() {
        Edge.of("NAME: a WORD, none of those told here, in a BOOK or a SENTENCE; told once.", () -> {
            for (String word : WORDS.split(" ")) {
                fault("figure " + word + " 0 0;", 7, 1);
                fault("person " + word + " 0 0 0 1;", 7, 1);
                fault("point " + word + " 0 0 0;", 6, 1);
                if (word.length() < 7) {
                    good("point " + word + "x 0 0 0;", 1);
                }
            }
            String[] sorts = {"figure a 0 0;", "person a 0 0 0 1;", "point a 1 1 0;"};
            for (String one : sorts) {
                for (String other : sorts) {
                    fault(one + other, one.length() + other.indexOf('a'), 3);
                }
            }
            good("figure a 0 0;figure b 0 0;figure aa 0 0;figure ab 0 0;", 4);
        });
        Edge.of("6 FIGURES, 5 PERSONS, 5 POINTS at most, numbered from 0 each.", () -> {
            String figures = "figure a 0 0;figure b 1 0;figure c 2 0;figure d 3 0;figure e 4 0;figure f 5 0;";
            String persons = "person g 0 0 0 1;person h 1 0 0 2;person i 2 0 0 3;person k 3 0 0 4;person l 4 0 0 5;";
            String points = "point m 0 1 0;point n 1 1 0;point o 2 1 0;point p 3 1 0;point q 4 1 0;";
            CartTurns x = Check.on(figures + persons + points);
            Check.due("FIGURES", x.count(2), 6);
            Check.due("PERSONS", x.count(3), 5);
            Check.due("POINTS", x.count(4), 5);
            for (int k = 0; k < 6; k++) {
                Check.due("QUARTERS of " + k, x.figure(k, 0), k);
            }
            for (int k = 0; k < 5; k++) {
                Check.due("BREATH of " + k, x.person(k, 3), k + 1);
                Check.due("X of POINT " + k, x.point(k, 0), k);
            }
            fault(figures + "figure r 0 0;", figures.length(), 4);
            fault(persons + "person r 5 5 0 1;", persons.length(), 4);
            fault(points + "point r 5 5 0;", points.length(), 4);
            // those of a text that had a FAULT count for none
            CartTurns y = new CartTurns();
            for (int k = 0; k < 2; k++) {
                Check.dueDowns(y, figures + persons + points + "wall 5 5 5;?", -1 - figures.length() - persons.length()
                    - points.length() - 11, 1);
                Check.dueDowns(y, figures + points + persons + "wall 5 5 5;", 17, 0);
            }
            Check.due("POINTS", y.count(4), 5);
            Check.due("walls", y.now(1), 5);
        });
    }

    private static void books() {
        Edge.of("A BOOK is a text of at most 400 bytes: { LINE ; }, 40 at most:", () -> {
            goodBook("");
            goodBook(" ".repeat(400));
            bookFault(" ".repeat(401), 400, 1);
            goodBook(filled("hour 1;", 400));
            bookFault(filled("hour 1;", 401), 400, 1);
            goodBook(" ".repeat(393) + "hour 1;");
            bookFault(" ".repeat(394) + "hour 1;", 400, 1);
            bookFault(";", 0, 1);
            bookFault("hour 1", 6, 1);
            CartTurns x = Check.on(KNOWN);
            Check.dueBook(x, "hour 1;".repeat(40), 0, -1, 0);
            Check.due("LINES", x.told(1), 40);
            bookFault("hour 1;".repeat(41), 280, 4);
        });
        Edge.of("'hour' N (1 to 60).", () -> {
            goodBook("hour 1;");
            goodBook("hour 60;");
            bookFault("hour 0;", 5, 2);
            bookFault("hour 61;", 5, 2);
            bookFault("hour;", 4, 1);
        });
        Edge.of("PERSON ( 'says' FIGURE SIDE | 'kicks' SIDE | 'rests' )", () -> {
            goodBook("a says f east;");
            bookFault("a;", 1, 1);
            bookFault("a says;", 6, 1);
            bookFault("a says f;", 8, 1);
            bookFault("a says east;", 7, 1);
            bookFault("a says f east east;", 14, 1);
            bookFault("a kicks;", 7, 1);
            bookFault("a kicks f east;", 8, 1);
            bookFault("a rests east;", 8, 1);
            bookFault("a a rests;", 2, 1);
            bookFault("a hour 1;", 2, 1);
        });
        Edge.of("SIDE: 'east', 'south', 'west', 'north', numbered from 0 (X more, Y more, X less, Y less).", () -> {
            String[] sides = {"east", "south", "west", "north"};
            int[] moreX = {1, 0, -1, 0};
            int[] moreY = {0, 1, 0, -1};
            for (int side = 0; side < 4; side++) {
                CartTurns x = Check.on("person a 2 2 0 9;figure f 0 1;");
                Check.dueBook(x, "a says f " + sides[side] + ";", 1, -1, 0);
                Check.due("X", x.person(0, 0), 2 + moreX[side]);
                Check.due("Y", x.person(0, 1), 2 + moreY[side]);
                CartTurns y = Check.on("person a 2 2 0 9;figure f 0 1;");
                Check.due("say to " + side, y.say(0, 0, side), 0);
                Check.due("X", y.person(0, 0), 2 + moreX[side]);
                Check.due("Y", y.person(0, 1), 2 + moreY[side]);
            }
            bookFault("a says f up;", 9, 1);
            bookFault("a says f number;", 9, 1);
            bookFault("a says f hour;", 9, 1);
            bookFault("a says f or;", 9, 1);
            bookFault("a kicks 0;", 8, 1);
        });
    }

    private static void sentences() {
        Edge.of("A SENTENCE is a text of at most 200 bytes: COND: ALL { 'or' ALL }. ALL: ONE { 'and' ONE }.", () -> {
            sentenceFault("", 0, 1);
            sentenceFault(" ".repeat(200), 200, 1);
            sentenceFault(" ".repeat(201), 200, 1);
            goodSentence(filled("spent", 200), 1);
            goodSentence(" ".repeat(195) + "spent", 1);
            sentenceFault(filled("spent", 201), 200, 1);
            sentenceFault(" ".repeat(196) + "spent", 200, 1);
            sentenceFault("or", 0, 1);
            sentenceFault("and spent", 0, 1);
            sentenceFault("spent or", 8, 1);
            sentenceFault("spent and", 9, 1);
            sentenceFault("spent or and spent", 9, 1);
            sentenceFault("spent or or spent", 9, 1);
            sentenceFault("spent and and spent", 10, 1);
            sentenceFault("spent spent", 6, 1);
            goodSentence("spent or spent and spent or spent", 4);
        });
        Edge.of("( 'breath' | 'up' | 'said' | 'number' ) SIGN NUMBER", () -> {
            for (String word : new String[] {"breath", "up", "said", "number"}) {
                int n = word.length();
                goodSentence(word + "<0", 1);
                goodSentence(word + "=999", 1);
                goodSentence(word + ">000", 1);
                sentenceFault(word, n, 1);
                sentenceFault(word + "=", n + 1, 1);
                sentenceFault(word + " 1", n + 1, 1);
                sentenceFault(word + "=a", n + 1, 1);
                sentenceFault(word + "=1000", n + 1, 1);
                sentenceFault(word + "<=1", n + 1, 1);
            }
        });
        Edge.of("'not' ONE | ( COND )", () -> {
            sentenceFault("not", 3, 1);
            sentenceFault("not or", 4, 1);
            sentenceFault("(", 1, 1);
            sentenceFault("()", 1, 1);
            sentenceFault("(spent", 6, 1);
            sentenceFault("(spent;", 6, 1);
            sentenceFault("spent)", 5, 1);
            sentenceFault("(spent))", 7, 1);
            goodSentence("not(not spent)", 4);
        });
    }

    private static void sentencesWithin() {
        Edge.of("20 ONES, 8 within one another.", () -> {
            goodSentence("spent" + " or up=1".repeat(19), 20);
            sentenceFault("spent" + " or up=1".repeat(20), 5 + 19 * 8 + 4, 4);
            goodSentence("spent" + " and up=1".repeat(19), 20);
            sentenceFault("spent" + " and up=1".repeat(20), 5 + 19 * 9 + 5, 4);
            goodSentence("not up=1" + " or up=1".repeat(18), 20);
            sentenceFault("not up=1" + " or up=1".repeat(19), 8 + 18 * 8 + 4, 4);
            goodSentence("(up=1" + " or up=1".repeat(18) + ")", 20);
            sentenceFault("(up=1" + " or up=1".repeat(19) + ")", 5 + 18 * 8 + 4, 4);
            goodSentence("not ".repeat(7) + "spent", 8);
            sentenceFault("not ".repeat(8) + "spent", 32, 4);
            goodSentence("(".repeat(7) + "spent" + ")".repeat(7), 8);
            sentenceFault("(".repeat(8) + "spent" + ")".repeat(8), 8, 4);
            // those beside one another are not within one another
            goodSentence("not(not(not(not up=1)))and not(not(not(not up=2)))", 16);
        });
    }

    private static void faultsOfTokens() {
        Edge.of("FAULTS, the first along the text, of one TOKEN the least:", () -> {
            fault("wall 9 9 9;", 5, 2);
            fault("wall 0 9 0;", 7, 2);
            fault("wall 0 0 1;wall 0 0 0;", 18, 3);
            fault("figure a 8 6;?", 9, 2);
            fault("figure a 0 0;figure a 8 6;", 20, 3);
            // of the Y: beyond the rim is less than a cell with one
            fault("downs 2 2;wall 0 1 1;wall 0 2 1;", 28, 2);
            bookFault("hour 1;".repeat(40) + "zzz rests;", 280, 3);
            bookFault("hour 1;".repeat(40) + "f rests;", 280, 3);
            bookFault("hour 1;".repeat(40) + "rests;", 280, 1);
            bookFault("hour 1;".repeat(40) + "a zzz;", 280, 4);
            sentenceFault("spent" + " or up=1".repeat(19) + " or a", 5 + 19 * 8 + 4, 1);
            sentenceFault("not ".repeat(8) + "or", 32, 1);
        });
        Edge.of("1 no TOKEN, or one that can't come (at it; the end: how many bytes there are;", () -> {
            fault("?", 0, 1);
            fault("  ?", 2, 1);
            fault("downs ?", 6, 1);
            fault("a", 0, 1);
            fault("7", 0, 1);
            fault("says", 0, 1);
            fault("downs wall", 6, 1);
            fault("downs", 5, 1);
            fault("downs ", 6, 1);
            fault("downs 2 2 \n", 11, 1);
            bookFault("a ", 2, 1);
            bookFault("a says f east\n", 14, 1);
            sentenceFault("not  ", 5, 1);
            sentenceFault("\n", 1, 1);
        });
    }

    private static void faultsOfLength() {
        Edge.of("the most bytes told, if there are more and no FAULT is ahead:", () -> {
            fault(filled("downs 2 2;", 900) + ";", 900, 1);
            fault(filled("downs 2 2;", 901) + "wall 0 0 1;", 900, 1);
            fault(filled("downs 2 2;?", 920), 10, 1);
            fault(filled("downs 2 2", 899) + "?;", 899, 1);
            fault(filled("downs 2 2", 900) + "?;", 900, 1);
            // what begins there is no more looked at
            fault(filled("downs 2", 900) + "10;", 900, 1);
            fault(filled("downs 2 2;wall 1 1 1;wall 1", 900) + "1 1;", 900, 1);
            bookFault(filled("hour", 400) + "61;", 400, 1);
            bookFault(filled("", 400) + "z rests;", 400, 1);
            bookFault("hour 1;".repeat(40) + " ".repeat(120) + "hour 1;", 400, 1);
            sentenceFault(filled("has", 200) + "z", 200, 1);
            bookFault(filled("hour 1;", 400) + ";", 400, 1);
            bookFault(filled("hour 61;", 420), 5, 2);
            sentenceFault(filled("spent", 200) + ";", 200, 1);
            sentenceFault(filled("has q", 220), 4, 3);
            // a BOOK may be longer than a SENTENCE, and DOWNS than a BOOK
            goodBook(" ".repeat(300) + "hour 1;");
            good(" ".repeat(500) + "downs 2 2;", 1);
        });
        Edge.of("TOKENS that begin ahead of it are read whole)", () -> {
            fault(filled("", 899) + "downs 2 2;", 900, 1);
            fault(filled("", 899) + "down 2 2;", 899, 1);
            fault(filled("", 899) + "downsdowns", 899, 1);
            fault(filled("downs 2", 899) + "10;", 899, 2);
            fault(filled("downs 2", 899) + "2;", 900, 1);
            fault(filled("downs 2", 898) + "10;", 898, 2);
            bookFault(filled("", 399) + "hour 1;", 400, 1);
            bookFault(filled("", 399) + "hours 1;", 399, 3);
            bookFault(filled("hour", 399) + "60;", 400, 1);
            bookFault(filled("hour", 399) + "61;", 399, 2);
            sentenceFault(filled("not", 199) + "spent", 200, 1);
            sentenceFault(filled("not", 199) + "spend", 199, 1);
            sentenceFault(filled("has", 199) + "pp", 199, 3);
        });
    }

    private static void faultsOfNumbersAndNames() {
        Edge.of("2 a NUMBER that is not as told (at it);", () -> {
            fault("downs  1 2;", 7, 2);
            fault("downs 2\n\n10;", 9, 2);
            bookFault("hour \n000;", 6, 2);
        });
        Edge.of("3 a NAME told twice, not told, or of another sort,", () -> {
            fault("figure a 0 0;figure  a 0 0;", 21, 3);
            bookFault("z rests;", 0, 3);
            bookFault("f rests;", 0, 3);
            bookFault("p rests;", 0, 3);
            bookFault("a says z east;", 7, 3);
            bookFault("a says a east;", 7, 3);
            bookFault("a says p east;", 7, 3);
            sentenceFault("has", 3, 1);
            sentenceFault("by", 2, 1);
            sentenceFault("(by )", 4, 1);
            sentenceFault("has z", 4, 3);
            sentenceFault("has a", 4, 3);
            sentenceFault("has f", 4, 3);
            sentenceFault("by z", 3, 3);
            sentenceFault("by f", 3, 3);
            sentenceFault("by p", 3, 3);
            goodSentence("by a or by b or has p", 3);
        });
        Edge.of("a wall in a cell with one or with a PERSON, a PERSON in a cell with a wall or with one (at the Y),", () -> {
            fault("wall 0 5 1;wall 0  5 1;", 19, 3);
            fault("person a 0 5 0 1;wall 0 5 1;", 24, 3);
            fault("wall 0 5 1;person a 0 5 0 1;", 22, 3);
            fault("person a 0 5 0 1;person b 0 5 0 1;", 28, 3);
        });
        Edge.of("'downs' told again or behind a LINE with X, Y (at the WORD);", () -> {
            fault("downs 2 2; downs 2 2;", 11, 3);
            fault("downs 2 2; downs 1 1;", 11, 3);
            fault("wall 0 0 1; downs 2 2;", 12, 3);
            fault("downs 2 2;wall 0 0 1;downs", 21, 3);
        });
    }

    private static void faultsOfTooMany() {
        Edge.of("4 one more than there may be of a sort, a 41st LINE of a BOOK (at the LINE's first WORD),", () -> {
            String figures = "figure a 0 0;figure b 0 0;figure c 0 0;figure d 0 0;figure e 0 0;figure f 0 0;";
            fault(figures + " figure", figures.length() + 1, 4);
            fault(figures + "figure a 9 9;", figures.length(), 4);
            good(figures + "person g 0 0 0 1;", 7);
            String persons = "person a 0 0 0 1;person b 1 0 0 1;person c 2 0 0 1;person d 3 0 0 1;person e 4 0 0 1;";
            fault(persons + " person ?", persons.length() + 1, 4);
            good(persons + "point f 0 0 0;", 6);
            String points = "point a 0 0 0;point b 1 0 0;point c 2 0 0;point d 3 0 0;point e 4 0 0;";
            fault(points + "\npoint a 9 9 9;", points.length() + 1, 4);
            good(points + "figure f 0 0;", 6);
            bookFault("hour 1;".repeat(40) + " hour 0;", 281, 4);
            bookFault("hour 1;".repeat(40) + "\na says", 281, 4);
        });
        Edge.of("a 21st ONE, a ninth within (at its first TOKEN).", () -> {
            String twenty = "spent" + " or up=1".repeat(19);
            for (String one : new String[] {"not spent", "(spent)", "has z", "up", "settled"}) {
                sentenceFault(twenty + " and " + one, twenty.length() + 5, 4);
                sentenceFault("not ".repeat(8) + one, 32, 4);
            }
            sentenceFault("(not ".repeat(4) + "spent))))", 20, 4);
            sentenceFault("(up=1 and not ".repeat(4) + "spent))))", 56, 4);
        });
    }
}
