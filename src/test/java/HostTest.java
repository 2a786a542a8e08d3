/** Part 3 of the document, ACTS, THE TRACE, SHEETS, SHELVES and what is kept, sentence by sentence, at their edges. */
public final class HostTest extends Told {
    private static void sheets() {
        says("SHEETS 0 to 3 are rows of bytes (sort 0), shorts (1), ints (2), longs (3) or booleans (4), 40 at most, or missing (at first).",
            "A SHEET becomes a row of n of a sort, all 0, or missing (sort -1; n counts nothing then): 1. BAD: no such SHEET, sort, n above 40; -14.");
        Counted x = new Counted();
        for (int s = 0; s < 4; s++) {
            due("missing at first", x.write(s, 0, 0), NOTHING);
            for (int sort = 0; sort < 5; sort++) due("missing at first", x.item(s, sort, 0), NOTHING);
        }
        for (int s = 0; s < 4; s++) {
            for (int sort = 0; sort < 5; sort++) {
                due("40 of a sort", x.sheet(s, sort, 40), 1);
                due("the first is 0", x.item(s, sort, 0), 0);
                due("the last is 0", x.item(s, sort, 39), 0);
                due("one beyond", x.item(s, sort, 40), OUTSIDE);
                due("the last is written", x.write(s, 39, 1), 1);
                due("the last is so", x.item(s, sort, 39), 1);
            }
        }
        due("made anew it is all 0", x.sheet(3, 4, 40), 1);
        due("made anew it is all 0", x.item(3, 4, 39), 0);
        due("others stay", x.item(2, 4, 39), 1);
        due("one of a sort", x.sheet(0, 2, 1), 1);
        due("it has one", x.item(0, 2, 0), 0);
        due("it has no second", x.item(0, 2, 1), OUTSIDE);
        due("none of a sort", x.sheet(0, 2, 0), 1);
        due("it has no first", x.item(0, 2, 0), OUTSIDE);
        due("it is not missing, but has no place", x.write(0, 0, 1), OUTSIDE);
        for (int n : ints(0, 40, 41, -1, LOW, HIGH)) {
            due("missing again", x.sheet(1, -1, n), 1);
            due("nothing is there", x.write(1, 0, 1), NOTHING);
        }
        refused(BAD, x, ints(-1, 4, LOW, HIGH), v -> x.sheet(v, 0, 1));
        refused(BAD, x, ints(-1, 4), v -> x.sheet(v, -1, 1));
        refused(BAD, x, ints(-2, 5, LOW, HIGH), v -> x.sheet(2, v, 1));
        refused(BAD, x, ints(41, 42, HIGH), v -> x.sheet(2, 4, v));
        refused(BELOW_ZERO, x, ints(-1, -2, LOW), v -> x.sheet(2, 4, v));
        refused(BELOW_ZERO, x, ints(0, 1, 2, 3, 4), v -> x.sheet(2, v, -1));
        refused(BAD, x, ints(-1, 4), v -> x.sheet(v, 0, -1));
        refused(BAD, x, ints(-2, 5), v -> x.sheet(2, v, -1));
    }

    private static void items() {
        says("Item i becomes v, narrowed to its sort (booleans: whether it is not 0): 1. BAD: no such SHEET; -11; -12.",
            "Item i, taken for a sort (0 to 4; of longs the lowest 32 bits; of booleans 1, 0). BAD: no such SHEET, sort; -13; -11; -12. (An item may be as low as these, too.)");
        int[] in = {0, 1, -1, -4, -13, 127, 128, 255, 256, -128, -129, 300, 32767, 32768, 65535, 65536, -32768, -32769, HIGH, LOW};
        int[] bytes = {0, 1, -1, -4, -13, 127, -128, -1, 0, -128, 127, 44, -1, 0, -1, 0, 0, -1, -1, 0};
        int[] shorts = {0, 1, -1, -4, -13, 127, 128, 255, 256, -128, -129, 300, 32767, -32768, -1, 0, -32768, 32767, -1, 0};
        int[] booleans = {0, 1, 1, 1, 1, 1, 1, 1, 1, 1, 1, 1, 1, 1, 1, 1, 1, 1, 1, 1};
        int[][] out = {bytes, shorts, in, in, booleans};
        Counted x = new Counted();
        for (int sort = 0; sort < 5; sort++) {
            x.sheet(2, sort, 20);
            for (int i = 0; i < 20; i++) due("write " + in[i], x.write(2, i, in[i]), 1);
            for (int i = 0; i < 20; i++) due(in[i] + " of sort " + sort, x.item(2, sort, i), out[sort][i]);
            for (int other = 0; other < 5; other++) {
                if (other != sort) due("taken for another sort", x.item(2, other, 0), OTHER_SORT);
            }
        }
        due("a boolean is false again", x.write(2, 3, 0), 1);
        due("a boolean is false again", x.item(2, 4, 3), 0);
        refused(BAD, x, ints(-1, 4, LOW, HIGH), v -> x.write(v, 0, 1));
        refused(NOTHING, x, ints(0, -1, 99), v -> x.write(1, v, 1));
        refused(OUTSIDE, x, ints(-1, 20, LOW, HIGH), v -> x.write(2, v, 1));
        refused(BAD, x, ints(-1, 4, LOW, HIGH), v -> x.item(v, 4, 0));
        refused(BAD, x, ints(-1, 5, LOW, HIGH), v -> x.item(2, v, 0));
        refused(BAD, x, ints(-1, 5), v -> x.item(1, v, 0));
        refused(NOTHING, x, ints(0, 1, 4), v -> x.item(1, v, 99));
        refused(OTHER_SORT, x, ints(0, 99, -1), v -> x.item(2, 0, v));
        refused(OUTSIDE, x, ints(-1, 20, LOW, HIGH), v -> x.item(2, 4, v));
        for (int sort = 0; sort < 5; sort++) {
            int of = sort;
            Counted y = new Counted();
            y.sheet(0, of, 7);
            refused(OUTSIDE, y, ints(-1, 7, LOW, HIGH), v -> y.write(0, v, 1));
            refused(OUTSIDE, y, ints(-1, 7, LOW, HIGH), v -> y.item(0, of, v));
        }
    }

    /** Two of linen at IRON 0: each PAYS 4; SHEET 0 holds bytes, SHEET 1 ints, SHEET 2 is missing. */
    private static Counted told(int... bytes) {
        Counted x = with(4, 0, 0, 0, 4, 0, 0, 0);
        irons(x, 0, 0, 0, 0, 0, 0);
        x.sheet(0, 0, bytes.length);
        for (int i = 0; i < bytes.length; i++) x.write(0, i, bytes[i]);
        x.sheet(1, 2, 5);
        return x;
    }

    private static void goAll() {
        says("n (0 to 20) items of a SHEET taken for bytes, from item i on, are ACTS, each followed by a WASHE (what is none, or when it is OVER, is left out): what these WASHES were WORTH together.");
        Counted x = told(0, 2, 1, 2);
        due("none of them", x.goAll(0, 0, 0), 0);
        due("none of them, wherever", x.goAll(0, 99, 0), 0);
        due("none is told", x.goAll(0, 0, 1), 0);
        due("4 and 1; 4 and 2", x.goAll(0, 1, 2), 11);
        due("both are FLAT", x.goAll(0, 3, 1), 2);
        due("four WASHES", x.state(0), 4);
        due("SCORE", x.state(2), 13);
        // 3 is no ACT of two THINGS, nor is what is below 0.
        Counted y = told(3, -1, 1, 127, -128, 2, 4);
        due("1 and 2 alone are ACTS", y.goAll(0, 0, 7), 11);
        due("two WASHES", y.state(0), 2);
        due("none of them is an ACT", y.goAll(0, 0, 2), 0);
        due("no WASHE", y.state(0), 2);
        y.thing(1, 0, 0, 0);
        due("3 is an ACT of three", y.goAll(0, 0, 1), 2);
        due("three WASHES", y.state(0), 3);
        Counted z = told(1, 2, 1, 0, 2);
        z.ends(3);
        due("5, 6, 2, then it is OVER", z.goAll(0, 0, 5), 13);
        due("OVER", z.state(3), 1);
        due("OVER: all is left out", z.goAll(0, 0, 5), 0);
        due("OVER", z.state(0), 3);
        due("SCORE", z.state(2), 13);
        Counted all = told(new int[40]);
        all.ends(16);
        due("20 of 40, the last 20", all.goAll(0, 20, 20), 0);
        due("16 WASHES", all.state(0), 16);
    }

    private static void goAllRefused() {
        says("BAD: no such SHEET, n; -13; -11; -12: what stood ahead was done.");
        Counted x = told(0, 1, 2);
        refused(BAD, x, ints(-1, 4, LOW, HIGH), v -> x.goAll(v, 0, 1));
        refused(BAD, x, ints(-1, 21, LOW, HIGH), v -> x.goAll(0, 0, v));
        refused(BAD, x, ints(-1, 21), v -> x.goAll(1, 0, v));
        refused(BAD, x, ints(-1, 21), v -> x.goAll(2, 0, v));
        refused(OTHER_SORT, x, ints(0, 1, 20), v -> x.goAll(1, 0, v));
        refused(OTHER_SORT, x, ints(-1, 5, 99), v -> x.goAll(1, v, 1));
        refused(NOTHING, x, ints(0, 1, 20), v -> x.goAll(2, 0, v));
        refused(NOTHING, x, ints(-1, 5, 99), v -> x.goAll(2, v, 1));
        refused(OUTSIDE, x, ints(-1, 3, LOW, HIGH), v -> x.goAll(0, v, 1));
        refused(OUTSIDE, x, ints(-1, -2, LOW, HIGH), v -> x.goAll(0, v, 20));
        due("two ahead of a place outside", x.goAll(0, 1, 3), OUTSIDE);
        due("both were done", x.state(4), 3);
        due("two WASHES", x.state(0), 2);
        due("SCORE, 5 and 6", x.state(2), 11);
        due("three ahead of it", x.goAll(0, 0, 20), OUTSIDE);
        due("three WASHES more", x.state(0), 5);
        x.ends(5);
        due("OVER: what is left out has its place nonetheless", x.goAll(0, 0, 3), 0);
        due("OVER: a place outside", x.goAll(0, 0, 4), OUTSIDE);
        for (int sort = 1; sort < 5; sort++) {
            int of = sort;
            Counted y = told();
            y.sheet(0, of, 3);
            refused(OTHER_SORT, y, v -> y.goAll(0, 0, 1));
            refused(OTHER_SORT, y, v -> y.wouldBe(0, 0, 1));
        }
        Counted none = told();
        refused(OUTSIDE, none, v -> none.goAll(0, 0, 1));
        due("none of none", none.goAll(0, 0, 0), 0);
    }

    private static void wouldBe() {
        says("n (0 to 20) items likewise: what they would be WORTH. BAD: no such SHEET, n; -13; -11; then, by items, -12; STATE: one is no ACT, or it would be OVER ahead of it.");
        Counted x = told(0, 1, 2, 3, 2, -1);
        asks(x, () -> {
            due("none of them", x.wouldBe(0, 0, 0), 0);
            due("none of them, wherever", x.wouldBe(0, 99, 0), 0);
            due("none is told", x.wouldBe(0, 0, 1), 0);
            due("4 and 1", x.wouldBe(0, 0, 2), 5);
            due("4 and 2", x.wouldBe(0, 0, 3), 11);
            due("the second first", x.wouldBe(0, 2, 1), 5);
        });
        refused(BAD, x, ints(-1, 4, LOW, HIGH), v -> x.wouldBe(v, 0, 1));
        refused(BAD, x, ints(-1, 21, LOW, HIGH), v -> x.wouldBe(0, 0, v));
        refused(BAD, x, ints(-1, 21), v -> x.wouldBe(1, 0, v));
        refused(BAD, x, ints(-1, 21), v -> x.wouldBe(2, 0, v));
        refused(OTHER_SORT, x, ints(0, 1, 20), v -> x.wouldBe(1, 99, v));
        refused(NOTHING, x, ints(0, 1, 20), v -> x.wouldBe(2, 99, v));
        refused(OUTSIDE, x, ints(-1, 6, LOW, HIGH), v -> x.wouldBe(0, v, 1));
        refused(OUTSIDE, x, ints(2, 20), v -> x.wouldBe(0, -1, v));
        refused(STATE, x, ints(4, 5, 20), v -> x.wouldBe(0, 0, v));
        refused(STATE, x, ints(3, 5), v -> x.wouldBe(0, v, 1));
        refused(STATE, x, ints(2, 20), v -> x.wouldBe(0, 5, v));
        Counted y = told(1, 2, 0);
        refused(OUTSIDE, y, ints(4, 20), v -> y.wouldBe(0, 0, v));
        y.ends(2);
        due("two of two", y.wouldBe(0, 0, 2), 11);
        refused(STATE, y, ints(3, 4, 20), v -> y.wouldBe(0, 0, v));
        refused(OUTSIDE, y, ints(3, 20), v -> y.wouldBe(0, 1, v));
        y.wash();
        y.wash();
        due("OVER: none of them", y.wouldBe(0, 0, 0), 0);
        refused(STATE, y, ints(1, 2, 3), v -> y.wouldBe(0, 0, v));
        refused(OUTSIDE, y, ints(1, 2), v -> y.wouldBe(0, 3, v));
        Counted all = told(new int[40]);
        all.ends(16);
        due("16 of 40", all.wouldBe(0, 24, 16), 0);
        refused(STATE, all, ints(17, 20), v -> all.wouldBe(0, 0, v));
        refused(OUTSIDE, all, v -> all.wouldBe(0, 25, 16));
    }

    private static void shelves() {
        says("SHELVES 0 to 3 hold a THING (by its number; nothing, if there is no such one at the time), a SHEET's row, or nothing (at first).",
            "A SHELF holds THING n (what 0), the row of SHEET n (1; nothing, if missing), nothing (2): 1. BAD: no such SHELF, what, thing.");
        Counted x = new Counted();
        x.keep();
        for (int s = 0; s < 4; s++) due("nothing at first", x.taken(s, 0), NOTHING);
        refused(BAD, x, ints(0, 1, -1), v -> x.shelf(0, 0, v));
        for (int k = 0; k < 6; k++) x.thing(2, 0, 0, 0);
        due("the first", x.shelf(0, 0, 0), 1);
        due("the last", x.shelf(3, 0, 5), 1);
        due("the first", x.taken(0, 2), 0);
        due("the last", x.taken(3, 2), 5);
        x.sheet(3, 1, 40);
        due("the row of the last SHEET", x.shelf(1, 1, 3), 1);
        due("40 shorts", x.taken(1, 11), 40);
        refused(BAD, x, ints(-1, 4, LOW, HIGH), v -> x.shelf(v, 2, 0));
        refused(BAD, x, ints(-1, 3, LOW, HIGH), v -> x.shelf(0, v, 0));
        refused(BAD, x, ints(-1, 6, LOW, HIGH), v -> x.shelf(0, 0, v));
        refused(BAD, x, ints(-1, 4, LOW, HIGH), v -> x.shelf(0, 1, v));
        due("nothing, n counts nothing", x.shelf(0, 2, 99), 1);
        due("nothing", x.taken(0, 2), NOTHING);
        due("the row of one that is missing", x.shelf(1, 1, 0), 1);
        due("nothing", x.taken(1, 11), NOTHING);
        due("a THING's place is taken by a row", x.shelf(3, 1, 3), 1);
        due("a row now", x.taken(3, 11), 40);
        due("a row now", x.taken(3, 2), OTHER_SORT);
        due("and by a THING again", x.shelf(3, 0, 5), 1);
        due("a THING now", x.taken(3, 11), OTHER_SORT);
        x.shelf(2, 0, 1);
        due("there are none again", x.again(), 0);
        due("no such one at the time", x.taken(3, 2), NOTHING);
        due("no such one at the time", x.act(3, 0, 1), 0);
        x.thing(4, 0, 0, 0);
        x.thing(5, 0, 0, 0);
        due("the second is one at the time", x.taken(2, 4), 1);
        due("it is another KIND", x.taken(2, 2), OTHER_SORT);
        due("the sixth is not", x.taken(3, 2), NOTHING);
        // That a SHELF keeps the row, whatever becomes of the SHEET, is a reading, see NOTES.md.
        x.shelf(0, 1, 3);
        x.sheet(3, -1, 0);
        due("the row it holds", x.taken(0, 11), 40);
    }

    private static void taken() {
        says("What a SHELF holds taken for a thing of KIND as (0 to 5, or one under it): its number; for a row of sort as - 10 (as 10 to 14): how many items. BAD: no such SHELF, as; -13; -11.");
        Counted x = with(1, 0, 0, 0, 2, 0, 0, 0, 3, 0, 0, 0, 4, 0, 0, 0, 5, 0, 0, 0);
        String[] under = {"0 1", "0 2", "0 2 3", "0 4", "0 4 5"};
        for (int k = 0; k < 5; k++) {
            x.shelf(0, 0, k);
            for (int as = 0; as < 6; as++) due("KIND " + (k + 1) + " as " + as, x.taken(0, as), under[k].contains("" + as) ? k : OTHER_SORT);
            for (int as = 10; as < 15; as++) due("a THING as a row", x.taken(0, as), OTHER_SORT);
        }
        x.remake(4, 1);
        due("by its KIND of now", x.taken(0, 1), 4);
        due("by its KIND of now", x.taken(0, 5), OTHER_SORT);
        for (int sort = 0; sort < 5; sort++) {
            x.sheet(0, sort, 8 * sort);
            x.shelf(1, 1, 0);
            for (int as = 10; as < 15; as++) due("a row of " + sort + " as " + as, x.taken(1, as), as == 10 + sort ? 8 * sort : OTHER_SORT);
            for (int as = 0; as < 6; as++) due("a row as a thing", x.taken(1, as), OTHER_SORT);
        }
        refused(BAD, x, ints(-1, 4, LOW, HIGH), v -> x.taken(v, 0));
        for (int s = 0; s < 3; s++) {
            int shelf = s;
            refused(BAD, x, ints(-1, 6, 9, 15, LOW, HIGH), v -> x.taken(shelf, v));
        }
        refused(NOTHING, x, ints(0, 1, 2, 3, 4, 5, 10, 11, 12, 13, 14), v -> x.taken(2, v));
    }

    private static void acts() {
        says("ACTS of a thing by its KIND, with a number x (ints that wrap): 0 folds, 1 airs, 2 shares, 3 stores. A THING is held as a thing of its KIND; n: its number, a: its BOARD.", "Quotients are cut towards 0.");
        // n, x, and what it folds, airs, shares, stores.
        int[][] told = {
            {0, 10, 43, 50, 10, 40}, {0, -11, -87, -80, -11, -69}, {0, 0, 23, 30, 0, 30}, {0, HIGH, -19, -12, 2147483647, 2147483637}, {0, LOW, 23, 30, -2147483648, -2147483618},
            {1, 10, 58, 116, 3, 113}, {1, -11, -68, -136, -3, -133}, {1, 0, -2, -4, 0, -4}, {1, HIGH, -8, -16, 715827882, -715827898}, {1, LOW, -2, -4, -715827882, 715827878},
            {2, 10, 110, 290, -10, 70}, {2, -11, -16, 38, 11, -203}, {2, 0, 50, 170, 0, -60}, {2, HIGH, 44, 158, -2147483647, 2147483575}, {2, LOW, 50, 170, -2147483648, 2147483588},
            {3, 10, 54, 61, 10, 51}, {3, -11, -72, -65, 6, -71}, {3, 0, -6, 1, 8, -7}, {3, HIGH, -12, -5, 536870919, -536870924}, {3, LOW, -6, 1, -536870904, 536870905},
            {4, 10, 52, -73, 27, -100}, {4, -11, -74, 53, 21, 32}, {4, 0, -8, -13, 24, -37}, {4, HIGH, -14, -7, 715827874, -715827881}, {4, LOW, -8, -13, -715827890, 715827877},
            {5, 10, 50, -50, 29, -79}, {5, -11, -76, 76, 19, 57}, {5, 0, -10, 10, 28, -18}, {5, HIGH, -16, 16, 306783374, -306783358}, {5, LOW, -10, 10, -306783390, 306783400},
        };
        Counted x = sixOfAllKinds();
        for (int[] t : told) {
            x.shelf(3, 0, t[0]);
            actsOf(x, t);
        }
        says("An ACT (0 to 3) of the thing on a SHELF, with x. 0, and no TRACE then: no such SHELF, act, nothing, a row.");
        x.sheet(0, 0, 9);
        x.shelf(1, 1, 0);
        int[][] none = {{-1, 0}, {4, 0}, {LOW, 3}, {HIGH, 3}, {3, -1}, {3, 4}, {3, LOW}, {3, HIGH}, {2, 0}, {1, 0}, {1, 3}};
        for (int[] n : none) {
            x.act(3, 3, 1);
            due("a TRACE", x.many(6) > 0 ? 1 : 0, 1);
            due("act(" + n[0] + ", " + n[1] + ", 5)", x.act(n[0], n[1], 5), 0);
            due("no TRACE", x.many(6), 0);
            due("no TRACE", x.trace(0), NONE);
        }
    }

    private static void body(String sentence, Counted x, int[]... told) {
        says(sentence);
        for (int[] t : told) {
            x.shelf(0, 0, t[0]);
            due("act " + t[1] + " of THING " + t[0] + " with " + t[2], x.act(0, t[1], t[2]), t[3]);
        }
    }

    private static void bodies() {
        // n 0 to 4, a 1 to 5: so n - a + 2 is 1 for each. Of each the number, the ACT, x, and the answer.
        Counted x = with(1, 0, 0, 1, 2, 0, 0, 2, 3, 0, 0, 3, 4, 0, 0, 4, 5, 0, 0, 5);
        body("thing: 10 folds: x * 6 - 2 * n.", x, ints(3, 0, 5, 24), ints(3, 0, 0, -6), ints(4, 0, 0, -8), ints(1, 0, 1, 4), ints(3, 0, HIGH, -12), ints(3, 0, LOW, -6));
        body("11 airs: folds(x) + 7 * a.", x, ints(3, 1, 5, 52), ints(3, 1, 0, 22), ints(0, 1, 4, 22), ints(0, 1, 0, 30));
        body("12 shares: x / (n - a + 2)", x, ints(0, 2, 7, 7), ints(1, 2, -7, -7), ints(2, 2, LOW, LOW));
        body("13 stores: airs(x) - shares(x).", x, ints(3, 3, 5, 39), ints(0, 3, 4, 18), ints(1, 3, 5, 79), ints(1, 3, 0, 24));
        body("copper: 20 folds: super.folds(x) ^ 23.", x, ints(0, 0, 0, 23), ints(0, 0, 4, 15), ints(0, 0, -1, -19));
        body("coat: 30 airs: super.airs(x) * 2.", x, ints(1, 1, 5, 84), ints(1, 1, 0, 24), ints(2, 1, 0, 142), ints(1, 1, LOW, 24));
        body("linen: 40 shares: super.shares(x) + 8.", x, ints(3, 2, 5, 13), ints(3, 2, 0, 8), ints(3, 2, -5, 3), ints(3, 2, HIGH, LOW + 7));
        body("hat: 50 folds: super.folds(x + 9).", x, ints(2, 0, 0, 50), ints(2, 0, -9, -4), ints(2, 0, HIGH, 44));
        body("51 stores: super.stores(x) - airs(a).", x, ints(2, 3, 0, -36), ints(2, 3, 1, -25));
        body("field: 60 airs: 0 - super.airs(x).", x, ints(4, 1, 0, -27), ints(4, 1, 10, -87));
        body("61 shares: super.shares(x) ^ folds(n).", x, ints(4, 2, 0, 24), ints(4, 2, 8, 0), ints(4, 2, -9, -17));
    }

    /** The KINDS 1 to 5, and 5 again; BOARDS 1, 0, 5, 1, 3, 0. */
    private static Counted sixOfAllKinds() {
        return with(1, 0, 0, 1, 2, 0, 0, 0, 3, 0, 0, 5, 4, 0, 0, 1, 5, 0, 0, 3, 5, 0, 0, 0);
    }

    private static void actsOf(Counted x, int[] t) {
        for (int act = 0; act < 4; act++) due("act " + act + " of " + t[0] + " with " + t[1], x.act(3, act, t[1]), t[2 + act]);
    }

    private static void partedByZero() {
        says("12 shares: x / (n - a + 2) (-15 if that is 0; that is all that act() answers then).");
        // n - a + 2 is 0 for n 0, 1, 2, 3 on BOARD 2, 3, 4, 5.
        Counted x = with(2, 0, 0, 0, 2, 0, 0, 0, 2, 0, 0, 0, 2, 0, 0, 0, 2, 0, 0, 0, 2, 0, 0, 0);
        for (int n = 0; n < 6; n++) {
            x.shelf(0, 0, n);
            for (int a = 0; a < 6; a++) {
                x.change(n, 3, a);
                int by = n - a + 2;
                due(n + " on " + a, x.act(0, 2, 60), by == 0 ? PARTED_BY_ZERO : 60 / by);
            }
        }
        x.shelf(0, 0, 1);
        x.change(1, 3, 3);
        for (int v : ints(0, 1, LOW, HIGH)) due("whatever x is", x.act(0, 2, v), PARTED_BY_ZERO);
        due("stores shares", x.act(0, 3, 5), PARTED_BY_ZERO);
        due("folds doesn't", x.act(0, 0, 5), 28);
        due("airs doesn't", x.act(0, 1, 5), 98);
        x.remake(1, 4);
        due("of linen: no 8 is put to it", x.act(0, 2, 5), PARTED_BY_ZERO);
        x.remake(1, 5);
        due("of a field", x.act(0, 2, 5), PARTED_BY_ZERO);
        x.remake(1, 3);
        due("of a hat", x.act(0, 3, 5), PARTED_BY_ZERO);
        asks(x, () -> due("again", x.act(0, 3, 5), PARTED_BY_ZERO));
    }

    private static void trace(Counted x, int act, int... bodies) {
        x.act(0, act, 7);
        due("bodies of act " + act, x.many(6), bodies.length);
        for (int i = 0; i < bodies.length; i++) due("body " + i + " of act " + act, x.trace(i), bodies[i]);
        for (int i : ints(-1, bodies.length, 30, 31, LOW, HIGH)) due("trace(" + i + ") of act " + act, x.trace(i), NONE);
    }

    private static void traces() {
        // No ACT has more than 11 bodies, so 30 are never reached.
        says("THE TRACE: numbers of the bodies that ran in the latest act(), as they began (left first); the first 30 are kept.", "THE TRACE's i-th body. NONE.");
        Counted none = new Counted();
        for (int i : ints(0, -1, 29, 30)) due("no act() yet", none.trace(i), NONE);
        due("no act() yet", none.many(6), 0);
        Counted x = sixOfAllKinds();
        x.shelf(0, 0, 0);
        trace(x, 0, 20, 10);
        trace(x, 1, 11, 20, 10);
        trace(x, 2, 12);
        trace(x, 3, 13, 11, 20, 10, 12);
        x.shelf(0, 0, 1);
        trace(x, 0, 10);
        trace(x, 1, 30, 11, 10);
        trace(x, 2, 12);
        trace(x, 3, 13, 30, 11, 10, 12);
        x.shelf(0, 0, 2);
        trace(x, 0, 50, 10);
        trace(x, 1, 30, 11, 50, 10);
        trace(x, 2, 12);
        trace(x, 3, 51, 13, 30, 11, 50, 10, 12, 30, 11, 50, 10);
        x.shelf(0, 0, 3);
        trace(x, 0, 10);
        trace(x, 1, 11, 10);
        trace(x, 2, 40, 12);
        trace(x, 3, 13, 11, 10, 40, 12);
        x.shelf(0, 0, 4);
        trace(x, 0, 10);
        trace(x, 1, 60, 11, 10);
        trace(x, 2, 61, 40, 12, 10);
        trace(x, 3, 13, 60, 11, 10, 61, 40, 12, 10);
        // Parted by 0: those that began stay (a reading, see NOTES.md), none begins behind.
        x.change(4, 2, 1);
        x.shelf(0, 0, 2);
        x.change(2, 3, 4);
        trace(x, 2, 12);
        trace(x, 3, 51, 13, 30, 11, 50, 10, 12);
        x.shelf(0, 0, 3);
        x.change(3, 3, 5);
        trace(x, 2, 40, 12);
        x.remake(3, 5);
        trace(x, 2, 61, 40, 12);
        trace(x, 3, 13, 60, 11, 10, 61, 40, 12);
    }

    private static void many() {
        says("How many: what = 0 THINGS, 1 RULES, 2 those FLAT, 3 REPORTS, 4 ROWS, 5 bytes of THE TAPE, 6 bodies of THE TRACE (those kept, 30 at most). BAD: another what.");
        Counted x = new Counted();
        for (int what = 0; what < 7; what++) due("many(" + what + ") at first", x.many(what), 0);
        refused(BAD, x, ints(-1, 7, LOW, HIGH), x::many);
        for (int k = 0; k < 6; k++) x.thing(3, 0, 0, 5);
        rules(x, "thing leave;".repeat(8));
        for (int k = 0; k < 6; k++) x.change(k, 4, 1);
        for (int i = 0; i < 6; i++) x.report(0, 0, 0, 99);
        x.prove(4);
        feed(x, " ".repeat(200));
        x.shelf(0, 0, 2);
        x.change(2, 3, 0);
        x.act(0, 3, 0);
        int[] most = {6, 8, 6, 6, 4, 200, 11};
        asks(x, () -> {
            for (int what = 0; what < 7; what++) due("many(" + what + ") at most", x.many(what), most[what]);
        });
        refused(BAD, x, ints(-1, 7), x::many);
    }

    private static void kept() {
        says("All but THE TAPE, ROWS, SHEETS, SHELVES, THE TRACE is kept: 1.", "It becomes what was kept latest (which stays): how many THINGS. NONE: nothing is kept.");
        Counted none = with(1, 0, 0, 0);
        refused(NONE, none, v -> none.again());
        due("of no THINGS", new Counted().keep(), 1);
        Counted x = with(4, 30, 3, 1, 2, 40, 9, 2, 1, 10, 1, 3, 1, 11, 2, 4, 3, 12, 3, 5, 2, 13, 4, 5);
        x.ends(9);
        allIrons(x, 14);
        for (int f = 0; f < 6; f++) {
            x.board(f, 0, 3);
            x.board(f, 1, 6);
        }
        rules(x, "coat fold;");
        x.iron(0, 2);
        for (int i = 0; i < 5; i++) x.report(0, 0, 0, 99);
        x.report(2, 1, 1, 1);
        x.wash();
        x.seed(99);
        due("kept", x.keep(), 1);
        String before = look(x);
        alterAll(x);
        due("all is altered", look(x).equals(before) ? 1 : 0, 0);
        due("how many THINGS", x.again(), 6);
        due("as it was", look(x).equals(before) ? 1 : 0, 1);
        x.wash();
        x.wash();
        due("it stays kept", x.again(), 6);
        due("as it was", look(x).equals(before) ? 1 : 0, 1);
        Counted z = with(1, 0, 0, 0);
        z.keep();
        z.thing(1, 0, 0, 0);
        z.keep();
        z.thing(1, 0, 0, 0);
        due("the latest", z.again(), 2);
        Counted y = new Counted();
        y.keep();
        y.thing(1, 0, 0, 0);
        due("of no THINGS", y.again(), 0);
        notKept();
    }

    private static void alterAll(Counted x) {
        for (int k = 0; k < 6; k++) {
            x.change(k, 1, 1);
            x.change(k, 2, 8);
            x.change(k, 3, 0);
            x.change(k, 4, 1);
            x.remake(k, 5);
        }
        allIrons(x, 0);
        for (int f = 0; f < 6; f++) {
            x.board(f, 0, 9);
            x.board(f, 1, 9);
        }
        x.ends(16);
        rules(x, "thing leave; hat press;");
        x.forget();
        for (int i = 0; i < 6; i++) x.report(5, 0, 7, 8);
        x.wash();
        x.lot();
    }

    private static void notKept() {
        Counted x = with(4, 0, 0, 0, 2, 0, 0, 0);
        x.keep();
        x.prove(3);
        x.sheet(1, 2, 6);
        x.write(1, 5, 77);
        x.shelf(2, 1, 1);
        x.shelf(3, 0, 1);
        x.act(3, 1, 5);
        feed(x, "coat leave;");
        x.again();
        due("bytes of THE TAPE", x.many(5), 11);
        due("ROWS", x.many(4), 3);
        due("a SHEET's item", x.item(1, 2, 5), 77);
        due("a SHELF", x.taken(2, 12), 6);
        due("a SHELF", x.taken(3, 2), 1);
        due("THE TRACE", x.many(6), 3);
        due("THE TAPE", x.rules(), 1);
        due("THE RULES are not kept yet", x.thingOf(1, 9), 1);
        due("how many", x.again(), 2);
        due("THE RULES are as kept", x.many(1), 0);
    }

    public static void main(String[] args) {
        sheets();
        items();
        goAll();
        goAllRefused();
        wouldBe();
        shelves();
        taken();
        bodies();
        acts();
        partedByZero();
        traces();
        many();
        kept();
        done("HostTest");
    }
}
