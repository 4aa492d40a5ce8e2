import java.util.NoSuchElementException;
import java.util.function.IntSupplier;

/** What the project's tests share: putting texts on the tape and telling which answers are not due. */
final class Check {
    static int wrong = 0;
    static int asked = 0;

    private Check() {
    }

    static void due(String call, int got, int want) {
        asked++;
        if (got != want) {
            wrong++;
            System.out.println(call + " answered " + got + ", due is " + want);
        }
    }

    static void due(String call, boolean got, boolean want) {
        due(call, got ? 1 : 0, want ? 1 : 0);
    }

    static void dueThrow(String call, IntSupplier what) {
        asked++;
        try {
            int got = what.getAsInt();
            wrong++;
            System.out.println(call + " answered " + got + ", due is NoSuchElementException");
        } catch (NoSuchElementException e) {
            // that is due
        }
    }

    /** Puts a text alone on the tape. */
    static void put(CartTurns x, String text) {
        x.end(0);
        for (int i = 0; i < text.length(); i += 20) {
            int[] n = new int[5];
            for (int k = 0; k < 20; k++) {
                int c = i + k < text.length() ? text.charAt(i + k) : 0;
                n[k / 4] |= c << 24 - 8 * (k % 4);
            }
            x.feed(n[0], n[1], n[2], n[3], n[4]);
        }
        x.end(text.length());
    }

    static CartTurns on(String downs) {
        CartTurns x = new CartTurns();
        dueDowns(x, downs, (int) downs.chars().filter(c -> c == ';').count(), 0);
        return x;
    }

    static void dueDowns(CartTurns x, String text, int want, int fault) {
        put(x, text);
        due("downs() of " + text, x.downs(), want);
        due("fault() of " + text, x.fault(), fault);
        due("bytes behind " + text, x.count(5), 0);
    }

    static void dueBook(CartTurns x, String text, int lives, int want, int fault) {
        put(x, text);
        due("book(" + lives + ") of " + text, x.book(lives), want);
        due("fault() of " + text, x.fault(), fault);
        due("bytes behind " + text, x.count(5), 0);
    }

    static void dueSentence(CartTurns x, String text, int want, int fault) {
        put(x, text);
        due("sentence() of " + text, x.sentence(), want);
        due("fault() of " + text, x.fault(), fault);
        due("bytes behind " + text, x.count(5), 0);
    }

    static void finish(String test) {
        System.out.println(test + (wrong == 0 ? ": all answers are as due" : ": " + wrong + " answers are not as due"));
        if (wrong != 0) {
            System.exit(1);
        }
    }
}
