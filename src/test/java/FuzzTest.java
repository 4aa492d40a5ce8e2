import java.util.NoSuchElementException;
import java.util.Random;

/** Runs of drawn calls, answered by the class and by the Model; every run begins from its own seed. */
public final class FuzzTest {
    private static final int RUNS = 500;
    private static final int CALLS = 300;
    private static final String[] NAMES = {"a", "bob", "ann", "yes", "no", "far", "her", "him", "sea", "zzzzzzz"};
    private static final String[] WORDS = {"downs", "wall", "figure", "person", "point", "says", "kicks", "rests",
        "hour", "east", "south", "west", "north", "or", "and", "not", "upright", "spent", "settled", "has", "by",
        "breath", "up", "said", "number", ";", "<", "=", ">", "(", ")", ".", "A", "1000", "7", "x1", "eightlet", "-"};
    private static final String[] CALLED = {"now", "person", "figure", "point", "cell", "say", "kick", "rest",
        "hours", "undo", "could", "way", "wayAt", "both", "sees", "undoes", "undoesAt", "tracks", "tracksAt",
        "tells", "least", "mean", "slip", "byteAt", "drawn", "odds", "book", "told", "sentence", "said", "image",
        "restore", "count", "fault", "feed", "end", "downs", "say", "say", "kick", "say"};

    private final Random random;
    private final CartTurns x = new CartTurns();
    private final Model m = new Model();
    private int[] args = new int[5];

    private FuzzTest(long seed) {
        random = new Random(seed);
    }

    public static void main(String[] none) {
        for (int run = 0; run < RUNS; run++) {
            new FuzzTest(run).run(run);
        }
        Check.finish("FuzzTest");
    }

    private void run(int run) {
        text("downs", downsText());
        same(run, 0, "downs");
        for (int k = 1; k < CALLS && Check.wrong < 20; k++) {
            String call = CALLED[random.nextInt(CALLED.length)];
            switch (call) {
                case "downs" -> {
                    if (random.nextInt(4) != 0) {
                        continue;
                    }
                    text(call, downsText());
                }
                case "book" -> text(call, bookText());
                case "sentence" -> text(call, sentenceText());
                case "tracks" -> text(call, trackText());
                default -> {
                    for (int i = 0; i < 5; i++) {
                        args[i] = drawnArg();
                    }
                    same(run, k, call);
                    continue;
                }
            }
            args[0] = random.nextInt(9) == 0 ? 2 : random.nextInt(2);
            same(run, k, call);
        }
    }

    private int drawnArg() {
        int kind = random.nextInt(30);
        return kind == 0 ? random.nextInt() : kind < 6 ? random.nextInt(10) - 1 : random.nextInt(4);
    }

    private void text(String call, String text) {
        Check.put(x, text);
        m.tape = text;
    }

    private void same(int run, int k, String call) {
        String told = "run " + run + ", call " + k + ": " + call + java.util.Arrays.toString(args) + " on " + m.tape;
        int want = answer(false, call);
        int got = answer(true, call);
        Check.due(told, got, want);
        Check.due(told + ": fault()", x.fault(), m.fault);
    }

    private int answer(boolean real, String call) {
        try {
            return real ? real(call) : model(call);
        } catch (NoSuchElementException e) {
            return Integer.MIN_VALUE;
        }
    }

    private int real(String call) {
        int a = args[0];
        int b = args[1];
        int c = args[2];
        int d = args[3];
        return switch (call) {
            case "feed" -> x.feed(a, b, c, d, args[4]);
            case "end" -> x.end(a) ? 1 : 0;
            case "downs" -> x.downs();
            case "fault" -> x.fault();
            case "person" -> x.person(a, b);
            case "figure" -> x.figure(a, b);
            case "point" -> x.point(a, b);
            case "cell" -> x.cell(a, b, c);
            case "now" -> x.now(a);
            case "say" -> x.say(a, b, c);
            case "kick" -> x.kick(a, b);
            case "rest" -> x.rest(a);
            case "hours" -> x.hours(a * 7);
            case "undo" -> x.undo();
            case "could" -> x.could(a, b);
            case "way" -> x.way(a, b);
            case "wayAt" -> x.wayAt(a);
            case "both" -> x.both(a, b, c);
            case "sees" -> x.sees(a);
            case "undoes" -> x.undoes(a);
            case "undoesAt" -> x.undoesAt(a);
            case "tracks" -> x.tracks();
            case "tracksAt" -> x.tracksAt(a);
            case "tells" -> x.tells();
            case "least" -> x.least();
            case "mean" -> x.mean(a);
            case "slip" -> x.slip(a);
            case "byteAt" -> x.byteAt(a * 4 + b);
            case "drawn" -> x.drawn(a * 3, b);
            case "odds" -> x.odds(a, b, c * 5, d);
            case "book" -> x.book(a);
            case "told" -> x.told(a);
            case "sentence" -> x.sentence();
            case "said" -> x.said(a);
            case "image" -> x.image(a) ? 1 : 0;
            case "restore" -> x.restore(a) ? 1 : 0;
            default -> x.count(a);
        };
    }

    private int model(String call) {
        int a = args[0];
        int b = args[1];
        int c = args[2];
        int d = args[3];
        return switch (call) {
            case "feed" -> m.feed(a, b, c, d, args[4]);
            case "end" -> m.end(a) ? 1 : 0;
            case "downs" -> m.downs();
            case "fault" -> m.fault;
            case "person" -> m.person(a, b);
            case "figure" -> m.figure(a, b);
            case "point" -> m.point(a, b);
            case "cell" -> m.cell(a, b, c);
            case "now" -> m.now(a);
            case "say" -> m.say(a, b, c);
            case "kick" -> m.kick(a, b);
            case "rest" -> m.rest(a);
            case "hours" -> m.hours(a * 7);
            case "undo" -> m.undo();
            case "could" -> m.could(a, b);
            case "way" -> m.way(a, b);
            case "wayAt" -> Model.at(m.way, a);
            case "both" -> m.both(a, b, c);
            case "sees" -> m.sees(a);
            case "undoes" -> m.undoes(a);
            case "undoesAt" -> Model.at(m.undoes, a);
            case "tracks" -> m.tracks();
            case "tracksAt" -> m.tracksAt(a);
            case "tells" -> m.tells();
            case "least" -> m.least();
            case "mean" -> m.mean(a);
            case "slip" -> m.slip(a);
            case "byteAt" -> m.byteAt(a * 4 + b);
            case "drawn" -> m.drawn(a * 3, b);
            case "odds" -> m.odds(a, b, c * 5, d);
            case "book" -> m.book(a);
            case "told" -> m.told(a);
            case "sentence" -> m.sentence();
            case "said" -> m.said(a);
            case "image" -> m.image(a) ? 1 : 0;
            case "restore" -> m.restore(a) ? 1 : 0;
            default -> m.count(a);
        };
    }

    // ---- drawn texts: mostly right, so that much of them is read

    private int below(int n) {
        return random.nextInt(n);
    }

    private String gap() {
        return below(6) == 0 ? "\n " : " ";
    }

    private String spoilt(String text, int often) {
        if (below(often) != 0) {
            return text;
        }
        String[] tokens = text.split(" ");
        int k = below(tokens.length);
        tokens[k] = below(3) == 0 ? "" : below(3) == 0 ? NAMES[below(NAMES.length)] : WORDS[below(WORDS.length)];
        return String.join(" ", tokens);
    }

    private String downsText() {
        return below(3) == 0 ? wildDowns() : fairDowns();
    }

    /** As the document wants it, in most runs: many calls need DOWNS on which there is something. */
    private String fairDowns() {
        StringBuilder s = new StringBuilder();
        int wide = below(8) + 2;
        int high = below(8) + 2;
        s.append("downs ").append(wide).append(gap()).append(high).append(" ; ");
        for (int k = below(6) + 1; k > 0; k--) {
            s.append("figure f").append((char) ('a' + k)).append(' ').append(below(8)).append(gap())
                .append(below(below(6) + 1)).append(" ; ");
        }
        boolean[] full = new boolean[100];
        for (int k = below(6); k > 0; k--) {
            int cell = 10 * below(wide) + below(high);
            if (!full[cell]) {
                s.append("person p").append((char) ('a' + k)).append(' ').append(cell / 10).append(gap())
                    .append(cell % 10).append(' ').append(below(4)).append(' ').append(below(3) == 0 ? below(60) + 1 : below(12) + 1)
                    .append(" ; ");
            }
            full[cell] = true;
        }
        for (int k = below(12); k > 0; k--) {
            int cell = 10 * below(wide) + below(high);
            if (!full[cell]) {
                s.append("wall ").append(cell / 10).append(gap()).append(cell % 10).append(' ').append(below(3) + 1).append(" ; ");
            }
            full[cell] = true;
        }
        for (int k = below(6); k > 0; k--) {
            s.append("point q").append((char) ('a' + k)).append(' ').append(below(wide)).append(gap())
                .append(below(high)).append(' ').append(below(4)).append(" ; ");
        }
        return spoilt(s.toString(), 8);
    }

    private String wildDowns() {
        StringBuilder s = new StringBuilder();
        int wide = below(8) + 2;
        int high = below(8) + 2;
        if (below(5) == 0) {
            s.append("figure a 1 1 ; ");
        }
        s.append("downs ").append(wide).append(gap()).append(high).append(" ; ");
        int lines = below(3) == 0 ? below(40) : below(16);
        for (int k = 0; k < lines; k++) {
            String name = below(20) == 0 ? NAMES[below(NAMES.length)] : "n" + (char) ('a' + k / 26) + (char) ('a' + k % 26);
            int x = below(wide);
            int y = below(high);
            switch (below(8)) {
                case 0 -> s.append("figure ").append(name).append(' ').append(below(8)).append(gap()).append(below(6));
                case 1 -> s.append("person ").append(name).append(' ').append(x).append(' ').append(y).append(' ')
                    .append(below(4)).append(' ').append(below(60) + 1);
                case 2 -> s.append("point ").append(name).append(' ').append(x).append(' ').append(y).append(' ').append(below(4));
                default -> s.append("wall ").append(x).append(' ').append(y).append(' ').append(below(9) + 1);
            }
            s.append(below(5) == 0 ? "          ; " : " ; ");
        }
        return cut(spoilt(s.toString(), 5), 940);
    }

    private String cut(String text, int most) {
        return text.length() > most ? text.substring(0, most) : text;
    }

    private String personName() {
        return m.w.pers.isEmpty() || below(40) == 0 ? NAMES[below(NAMES.length)]
            : m.w.pers.get(below(m.w.pers.size())).name();
    }

    private String figureName() {
        return m.w.figs.isEmpty() || below(40) == 0 ? NAMES[below(NAMES.length)]
            : m.w.figs.get(below(m.w.figs.size())).name();
    }

    private String pointName() {
        return m.w.pts.isEmpty() || below(40) == 0 ? NAMES[below(NAMES.length)]
            : m.w.pts.get(below(m.w.pts.size())).name();
    }

    private String bookText() {
        StringBuilder s = new StringBuilder();
        int lines = below(4) == 0 ? below(45) : below(6);
        for (int k = 0; k < lines; k++) {
            String side = " " + Model.SIDES.get(below(4));
            switch (below(6)) {
                case 0 -> s.append("hour ").append(below(20) == 0 ? below(70) : below(5) + 1);
                case 1 -> s.append(personName()).append(" kicks").append(side);
                case 2 -> s.append(personName()).append(" rests");
                default -> s.append(personName()).append(" says ").append(figureName()).append(side);
            }
            s.append(lines > 20 ? ";" : " ; ");
        }
        String text = lines > 30 ? s.toString().replaceAll("n[a-z]* says [a-z]* [a-z]*|n[a-z]* kicks [a-z]*|n[a-z]* rests", "hour 1")
            : s.toString();
        return cut(spoilt(text, 5), 940);
    }

    private String sentenceText() {
        StringBuilder s = new StringBuilder();
        cond(s, below(3) == 0 ? 9 : below(4));
        return cut(spoilt(s.toString(), 5), 940);
    }

    private void cond(StringBuilder s, int depth) {
        int parts = below(5) == 0 ? below(4) + 1 : below(2) + 1;
        for (int k = 0; k < parts; k++) {
            s.append(k == 0 ? "" : below(2) == 0 ? " or " : " and ");
            one(s, depth);
        }
    }

    private void one(StringBuilder s, int depth) {
        int kind = below(depth > 0 ? 12 : 7);
        if (s.length() > 300) {
            kind = 0;
        }
        switch (kind) {
            case 0 -> s.append("upright");
            case 1 -> s.append("spent");
            case 2 -> s.append("settled");
            case 3 -> s.append("has ").append(pointName());
            case 4 -> s.append("by ").append(personName());
            case 5, 6 -> s.append(WORDS[21 + below(4)]).append(' ').append("<=>".charAt(below(3))).append(' ').append(below(9));
            case 7, 8 -> {
                s.append("not ");
                one(s, depth - 1);
            }
            default -> {
                s.append("( ");
                cond(s, depth - 1);
                s.append(" )");
            }
        }
    }

    private String trackText() {
        StringBuilder s = new StringBuilder();
        int x = below(m.w.wide);
        int y = below(m.w.high);
        int cells = below(8) + 1;
        for (int k = 0; k < cells; k++) {
            s.append((char) (x & 255)).append((char) (y & 255));
            int far = m.w.figs.isEmpty() ? 1 : m.w.figs.get(below(m.w.figs.size())).cells();
            int side = below(4);
            if (m.w.in(x + far * Model.dx(side), y + far * Model.dy(side)) || below(20) == 0) {
                x += far * Model.dx(side);
                y += far * Model.dy(side);
            }
        }
        return below(20) == 0 ? s + "z" : s.toString();
    }
}
