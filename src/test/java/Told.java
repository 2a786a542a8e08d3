import java.nio.charset.StandardCharsets;
import java.nio.file.Files;
import java.nio.file.Path;
import java.util.function.IntUnaryOperator;

/** What the tests, which extend this, share: headings that are words of the document, answers that are due, refusals that must change nothing. */
class Told {
    static final int BAD = -1, FULL = -2, NONE = -3, STATE = -4;
    static final int NOTHING = -11, OUTSIDE = -12, OTHER_SORT = -13, BELOW_ZERO = -14, PARTED_BY_ZERO = -15;
    static final int LOW = Integer.MIN_VALUE, HIGH = Integer.MAX_VALUE;

    private static final String DOCUMENT = document();
    private static String heading = "";
    private static int headings = 0;
    private static int askedBelow = 1;
    private static int asked = 0;
    private static int wrong = 0;

    // Where the document isn't at hand the answers are tested nonetheless.
    private static String document() {
        try {
            return plain(Files.readString(Path.of("../shared/DOC.md"), StandardCharsets.ISO_8859_1));
        } catch (java.io.IOException e) {
            System.out.println("../shared/DOC.md is not there: whether it says so is not tested");
            return null;
        }
    }

    private static String plain(String text) {
        return text.replaceAll("\\s+", " ");
    }

    /** What follows tests these sentences, each of which must stand in the document word for word. */
    static void says(String... sentences) {
        heads("\"" + String.join("\" and \"", sentences) + "\"");
        for (String sentence : sentences) {
            headings++;
            if (DOCUMENT != null && !DOCUMENT.contains(plain(sentence))) fail("the document doesn't say so");
        }
    }

    /** What follows is told under this heading, if it fails. */
    static void heads(String text) {
        closeHeading();
        heading = text;
        askedBelow = 0;
    }

    private static void closeHeading() {
        if (askedBelow == 0) fail("nothing was asked");
    }

    private static void fail(String how) {
        wrong++;
        System.out.println(heading + ": " + how);
    }

    static void due(String what, long got, long want) {
        asked++;
        askedBelow++;
        if (got != want) fail(what + " answered " + got + ", due is " + want);
    }

    /** Each of these is refused, and leaves all that can be looked at as it was. */
    static void refused(int want, Counted x, int[] args, IntUnaryOperator call) {
        String before = look(x);
        for (int v : args) due("with " + v, call.applyAsInt(v), want);
        due("what was changed by a refused call", look(x).equals(before) ? 0 : 1, 0);
    }

    static void refused(int want, Counted x, IntUnaryOperator call) {
        refused(want, x, new int[] {0}, call);
    }

    /** What is asked here changes nothing. */
    static void asks(Counted x, Runnable asking) {
        String before = look(x);
        asking.run();
        due("what was changed by asking", look(x).equals(before) ? 0 : 1, 0);
    }

    static void done(String test) {
        closeHeading();
        System.out.println(test + ": " + headings + " sentences, " + asked + " answers, " + wrong + " faults");
        if (wrong != 0 || asked == 0) System.exit(1);
    }

    static int[] ints(int... v) {
        return v;
    }

    /** With THINGS, each told by four: KIND, BULK, CREASE, BOARD. */
    static Counted with(int... fours) {
        Counted x = new Counted();
        for (int i = 0; i + 3 < fours.length; i += 4) x.thing(fours[i], fours[i + 1], fours[i + 2], fours[i + 3]);
        return x;
    }

    /** The IRONS from WASH 0 on. */
    static void irons(Counted x, int... v) {
        for (int i = 0; i < v.length; i++) x.iron(i, v[i]);
    }

    static void allIrons(Counted x, int v) {
        for (int i = 0; i < 16; i++) x.iron(i, v);
    }

    /** An ACT is told, and a WASHE goes by: what it was WORTH. SHEET 3 is used up. */
    static int tell(Counted x, int act) {
        x.sheet(3, 0, 1);
        x.write(3, 0, act);
        return x.goAll(3, 0, 1);
    }

    static int feed(Counted x, String text) {
        int has = 0;
        for (int i = 0; i < text.length(); i += 8) {
            long eight = 0;
            int n = Math.min(8, text.length() - i);
            for (int j = 0; j < n; j++) eight |= (text.charAt(i + j) & 255L) << 8 * j;
            has = x.feed(eight, n);
        }
        return has;
    }

    static int rules(Counted x, String text) {
        feed(x, text);
        return x.rules();
    }

    /** All that can be looked at; twins are looked at, so x has as many calls left as before. */
    static String look(Counted x) {
        StringBuilder b = new StringBuilder();
        lookAtLaundry(b, x.twin());
        lookAtHost(b, x.twin());
        return b.toString();
    }

    private static void lookAtLaundry(StringBuilder b, Counted x) {
        lookAtThings(b, x);
        for (int f = 0; f < 6; f++) add(b, x.boardOf(f, 0), x.boardOf(f, 1));
        for (int what = 0; what < 4; what++) add(b, x.lone(what));
        add(b, x.liar(), x.on(16), x.left(16, 0), x.left(16, 1));
        for (int w = 0; w < 16; w++) add(b, x.iron(w, 0));
        // What the tape and what is kept hold shows by what they tell.
        add(b, x.seed(0), x.rules());
        for (int k = 0; k < 6; k++) add(b, x.thingOf(k, 9));
        add(b, x.again());
        lookAtThings(b, x);
        add(b, x.seed(0));
    }

    private static void lookAtThings(StringBuilder b, Counted x) {
        for (int i = 0; i < 7; i++) add(b, x.state(i), x.many(i));
        for (int k = 0; k < x.many(0); k++) for (int what = 0; what < 10; what++) add(b, x.thingOf(k, what));
    }

    private static void lookAtHost(StringBuilder b, Counted x) {
        for (int k = 0; k < 4; k++) for (int what = 0; what < 3; what++) add(b, x.row(k, what));
        for (int i = 0; i < 12; i++) add(b, x.trace(i));
        lookAtShelves(b, x);
        for (int s = 0; s < 4; s++) for (int sort = 0; sort < 5; sort++) for (int i = 0; i < 3; i++) add(b, x.item(s, sort, i));
        for (int s = 0; s < 4; s++) x.shelf(s, 1, s);
        lookAtShelves(b, x);
    }

    private static void lookAtShelves(StringBuilder b, Counted x) {
        for (int s = 0; s < 4; s++) for (int as = 0; as < 6; as++) add(b, x.taken(s, as == 5 ? 0 : 10 + as));
    }

    private static void add(StringBuilder b, int... v) {
        for (int i : v) b.append(i).append(' ');
    }
}
