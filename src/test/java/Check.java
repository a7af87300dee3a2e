import java.util.ArrayList;
import java.util.List;
import java.util.function.LongSupplier;
import java.util.function.Supplier;
import java.util.function.ToLongFunction;

/** What the tests of the project share: they print what is wrong, and end with exit code 1 then. */
final class Check {
    private static int wrong = 0;
    private static String about = "";
    private static final List<String> SENTENCES = new ArrayList<>();

    private Check() {
    }

    /** The words of the document that the checks from now on are about. */
    static void sentence(String words) {
        about = "\"" + words + "\": ";
        SENTENCES.add(words);
    }

    static void aboutNone() {
        about = "";
    }

    static List<String> sentences() {
        return SENTENCES;
    }

    static void due(String what, long got, long want) {
        if (got != want) {
            wrong++;
            System.out.println(about + what + " answered " + got + ", due is " + want);
        }
    }

    static void due(String what, String got, String want) {
        if (!got.equals(want)) {
            wrong++;
            System.out.println(about + what + ": " + got + ", due is " + want);
        }
    }

    /** A call that is refused so, and changes nothing. */
    static void refused(String what, FewerMan x, LongSupplier call, long want) {
        String before = look(x);
        due(what, call.getAsLong(), want);
        due(what + " changes nothing", look(x), before);
    }

    /** A call on a new object that is refused so, and all that can be seen at all is as without it. */
    static void refused(String what, Supplier<FewerMan> from, ToLongFunction<FewerMan> call, long want) {
        FewerMan x = from.get();
        due(what, call.applyAsLong(x), want);
        due(what + " changes nothing", lookThrough(x), lookThrough(from.get()));
    }

    /** A fraction whose parts a call answers. */
    static void fraction(String what, long above, long below, long wantAbove, long wantBelow) {
        due(what + " above", above, wantAbove);
        due(what + " below", below, wantBelow);
    }

    /** Feeds a text; then it is an INN, or a FAULT: what inn() answers. */
    static int inn(FewerMan x, String text) {
        feed(x, text);
        return x.inn();
    }

    static void feed(FewerMan x, String text) {
        for (int i = 0; i < text.length(); i++) {
            due("feed in \"" + text + "\"", x.feed(text.charAt(i)), x.count(4));
        }
    }

    /** All that can be seen without a change (a ROW's numbers are put back). */
    static String look(FewerMan x) {
        StringBuilder all = new StringBuilder();
        for (int what = 0; what < 6; what++) {
            all.append(x.count(what)).append(' ');
        }
        for (int what = 0; what < 3; what++) {
            all.append(x.told(what)).append(' ');
        }
        for (int p = 0; p < x.count(0); p++) {
            all.append("| ");
            for (int what = 0; what < 3; what++) {
                all.append(x.of(p, what)).append(' ');
            }
            for (int k = 0; k < 4; k++) {
                int was = x.row(p, k, 0);
                all.append(was).append(' ');
                if (was >= 0) {
                    x.row(p, k, was);
                }
            }
            for (int q = 0; q < x.count(0); q++) {
                all.append(x.push(p, q)).append(' ');
            }
            all.append(x.says(p)).append(' ').append(x.likely(p)).append(' ');
        }
        all.append("| ").append(x.looked());
        for (int i = 0; i < x.count(5); i++) {
            all.append(' ').append(x.trace(i));
        }
        return all.toString();
    }

    /** All that can be seen at all; the object is spent then: THE TAPE is read, and THE IMAGE brought back. */
    static String lookThrough(FewerMan x) {
        StringBuilder all = new StringBuilder(look(x));
        all.append("| the tape: ").append(x.inn()).append(' ').append(look(x));
        for (int m = 1; m <= 20; m += 19) {
            for (int p = 0; p < x.count(0); p++) {
                x.men(p, m);
            }
            all.append("| MEN ").append(m).append(": ").append(look(x));
        }
        all.append("| the image: ").append(x.undo()).append(' ').append(look(x));
        all.append("| its tape: ").append(x.inn()).append(' ').append(look(x));
        return all.toString();
    }

    static void end(String name) {
        System.out.println(wrong == 0 ? name + ": all answers are as due" : name + ": " + wrong + " are not as due");
        if (wrong != 0) {
            System.exit(1);
        }
    }
}
