/** Part 3 of the document, REPORTS, LONE THINGS, LIAR and LOTS, sentence by sentence, at their edges. */
public final class StrangersTest extends Told {
    private static void lone(Counted x, int fit, int kind, int crease, int bulk) {
        due("how many FIT", x.lone(0), fit);
        due("KIND", x.lone(1), fit == 0 ? NONE : kind);
        due("CREASE", x.lone(2), fit == 0 ? NONE : crease);
        due("BULK at first", x.lone(3), fit == 0 ? NONE : bulk);
    }

    private static void reports() {
        says("A REPORT (6 at most)", "A REPORT: its number. BAD: also MOST below LEAST; FULL.");
        Counted x = new Counted();
        refused(BAD, x, ints(-1, 16, LOW, HIGH), v -> x.report(v, 0, 0, 99));
        refused(BAD, x, ints(-1, 16, LOW, HIGH), v -> x.report(v, 1, 0, 16));
        refused(BAD, x, ints(-1, 2, LOW, HIGH), v -> x.report(0, v, 0, 0));
        refused(BAD, x, ints(-1, 100, LOW, HIGH), v -> x.report(0, 0, v, 99));
        refused(BAD, x, ints(-1, 100, LOW, HIGH), v -> x.report(0, 0, 0, v));
        refused(BAD, x, ints(-1, 17, LOW, HIGH), v -> x.report(0, 1, v, 16));
        refused(BAD, x, ints(-1, 17, LOW, HIGH), v -> x.report(0, 1, 0, v));
        refused(BAD, x, ints(0, 49), v -> x.report(0, 0, 50, v));
        refused(BAD, x, ints(0, 7), v -> x.report(0, 1, 8, v));
        refused(BAD, x, ints(100, 101), v -> x.report(0, 0, v, v));
        refused(BAD, x, ints(17, 99), v -> x.report(0, 1, v, v));
        due("the least of all", x.report(0, 0, 0, 0), 0);
        due("the greatest of BULK", x.report(15, 0, 99, 99), 1);
        due("the widest of BULK", x.report(15, 0, 0, 99), 2);
        due("the greatest of PAYING", x.report(15, 1, 16, 16), 3);
        due("the widest of PAYING", x.report(0, 1, 0, 16), 4);
        due("MOST is LEAST", x.report(7, 1, 8, 8), 5);
        due("how many", x.many(3), 6);
        refused(FULL, x, v -> x.report(0, 0, 0, 0));
        refused(BAD, x, ints(-1, 16), v -> x.report(v, 0, 0, 0));
        refused(BAD, x, ints(-1), v -> x.report(0, 0, 0, v));
        says("There are no REPORTS: how many there were.");
        due("six", x.forget(), 6);
        due("none", x.forget(), 0);
        due("none", x.many(3), 0);
        due("numbered from 0 again", x.report(1, 1, 1, 1), 0);
        due("one", x.forget(), 1);
    }

    private static void loneThings() {
        says("A LONE THING is a KIND (1 to 5; its number 0), CREASE, BULK at first (0, 9, .. 81), on a BOARD of WEIGHT 0, ROPE 0, where nothing is FLAT, told nothing.",
            "LONE THINGS that FIT: what = 0 how many; of that with the least KIND, of these the least CREASE, of these the least BULK: 1 KIND, 2 CREASE, 3 BULK at first. BAD; NONE (of 1, 2, 3): there are none.");
        Counted x = new Counted();
        refused(BAD, x, ints(-1, 4, LOW, HIGH), x::lone);
        lone(x, 500, 1, 0, 0);
        int[][] told = {{0, 0, 50, 0}, {81, 81, 50, 81}, {81, 99, 50, 81}, {82, 99, 0, 0}, {1, 8, 0, 0}, {1, 9, 50, 9}, {0, 81, 500, 0}, {72, 80, 50, 72}, {9, 17, 50, 9}};
        for (int[] t : told) {
            x.forget();
            x.report(0, 0, t[0], t[1]);
            lone(x, t[2], 1, 0, t[3]);
        }
        refused(BAD, x, ints(-1, 4), x::lone);
        // IRON 9: coats have 60 more behind 15 WASHES, hats 15, linen and fields 15, too; copper's BULK stays.
        x.forget();
        x.report(15, 0, 60, 60);
        lone(x, 40, 2, 0, 0);
        x.report(0, 0, 45, 45);
        lone(x, 30, 3, 0, 45);
        // Copper of 18 has 18 always; coats of none, hats and linen and fields of 3 would have.
        x.forget();
        x.report(15, 0, 18, 18);
        lone(x, 10, 1, 0, 18);
        // Behind 3 WASHES: coats 12, hats 3, linen and fields of number 0: 0 and 1 and 2.
        x.forget();
        x.report(3, 0, 3, 3);
        lone(x, 30, 3, 0, 0);
        x.iron(0, 10);
        lone(x, 20, 4, 0, 0);
        nothingElseCounts();
    }

    private static void nothingElseCounts() {
        says("Those that FIT: by which each REPORT is so, by IRONS as they are.", "on a BOARD of WEIGHT 0, ROPE 0, where nothing is FLAT, told nothing.");
        // The laundry's own doesn't count: WASH, END, BOARDS, THINGS, RULES.
        Counted x = with(4, 0, 0, 0, 2, 99, 9, 1);
        x.report(3, 0, 12, 12);
        x.report(2, 1, 1, 2);
        // Coats of BULK 0, with CREASE 4 at most: ahead of WASH 0 they NEED 4 and CREASE. Of BULK 9 hats and linen all PAY, a field of CREASE 9 NEEDS 9.
        int fit = x.lone(0);
        due("coats of 0, CREASE 0 to 4; hats of 9; linen of 9; fields of 9, CREASE 0 to 8", fit, 5 + 10 + 10 + 9);
        x.ends(1);
        x.wash();
        for (int f = 0; f < 6; f++) {
            x.board(f, 0, 9);
            x.board(f, 1, 9);
        }
        rules(x, "thing leave;");
        lone(x, fit, 2, 0, 0);
        x.iron(0, 0);
        x.iron(1, 0);
        due("IRONS do", x.lone(0) == fit ? 1 : 0, 0);
    }

    private static void leastOfThose() {
        says("of that with the least KIND, of these the least CREASE, of these the least BULK");
        // Not PAID at PRESS 4, but at PRESS 8 a WASH later: a coat of CREASE 0 and BULK 9, of CREASE 1 and BULK 0, ...
        Counted x = new Counted();
        irons(x, 4, 8);
        x.report(1, 1, 0, 0);
        x.report(2, 1, 1, 1);
        // 11 coats, 45 hats, 48 of linen, 39 fields.
        lone(x, 143, 2, 0, 9);
        x.report(0, 0, 0, 0);
        // BULK 0: coats of CREASE 1 to 4, hats of 4 to 9, no linen, fields of 6 to 9.
        lone(x, 14, 2, 1, 0);
    }

    private static void asked() {
        says("behind k WASHES (0 to 15; from WASH 0 on) BULK was (asked 0; 0 to 99), or in how many WASHES it would have PAID more than 0, ahead of swelling (1; 0 to 16), from LEAST to MOST.");
        Counted x = new Counted();
        x.report(0, 1, 0, 0);
        lone(x, 500, 1, 0, 0);
        x.report(0, 1, 1, 16);
        lone(x, 0, 0, 0, 0);
        x.forget();
        x.report(15, 1, 16, 16);
        lone(x, 0, 0, 0, 0);
        x.forget();
        x.report(15, 1, 0, 16);
        lone(x, 500, 1, 0, 0);
        // STEAM 3, SIGH 0: in each of 15 WASHES 10 coats, 95 hats, all linen, 87 fields.
        x.forget();
        allIrons(x, 12);
        x.report(15, 1, 15, 15);
        lone(x, 292, 2, 0, 0);
        x.iron(15, 0);
        lone(x, 292, 2, 0, 0);
        x.iron(14, 0);
        due("WASH 14 counts: linen and fields of more can't PAY by 0", x.lone(0) == 292 ? 1 : 0, 0);
        // PRESS 0: those that NEED 0 ahead of WASH 0: linen and fields of BULK 0 with CREASE 0, 1; of BULK 9 with CREASE 0.
        allIrons(x, 0);
        x.forget();
        x.report(15, 1, 0, 0);
        lone(x, 494, 1, 0, 0);
        x.forget();
        x.report(1, 1, 1, 1);
        lone(x, 6, 4, 0, 0);
        x.report(0, 0, 9, 9);
        lone(x, 2, 4, 0, 9);
        // Ahead of swelling: PRESS 4, SIGH 3. BULK 0: a coat of CREASE 0, hats to 3, all linen, fields to 5.
        x.forget();
        x.iron(0, 7);
        x.report(0, 0, 0, 0);
        x.report(1, 1, 1, 1);
        lone(x, 21, 2, 0, 0);
        // LEAST and MOST themselves are within.
        x.forget();
        allIrons(x, 3);
        x.report(2, 0, 16, 18);
        // SIGH 3: coats of 0 have 16; hats 10 and 9 19, 10; linen of 18 19, copper 18.
        lone(x, 20, 1, 0, 18);
        x.forget();
        x.report(2, 0, 17, 17);
        lone(x, 0, 0, 0, 0);
        // 99 at most: coats of 81 and 24, of 78 there are none.
        x.forget();
        x.report(3, 0, 99, 99);
        lone(x, 10, 2, 0, 81);
        x.forget();
        x.report(2, 0, 97, 97);
        lone(x, 10, 2, 0, 81);
    }

    private static void liars() {
        says("LIAR: if none FITS, the least REPORT but for which some would.", "LIAR. NONE: some FIT; or there is no such REPORT.");
        Counted x = new Counted();
        due("no REPORTS: all FIT", x.liar(), NONE);
        x.report(0, 0, 1, 8);
        asks(x, () -> due("one that none FITS", x.liar(), 0));
        x.report(0, 0, 0, 0);
        due("the first", x.liar(), 0);
        x.report(0, 0, 9, 9);
        due("any two are of another BULK, and none FITS the first", x.liar(), NONE);
        x.forget();
        for (int i = 0; i < 5; i++) x.report(0, 0, 9, 9);
        due("some FIT", x.liar(), NONE);
        x.report(0, 0, 18, 18);
        due("the sixth", x.liar(), 5);
        x.forget();
        x.report(0, 0, 18, 18);
        for (int i = 0; i < 5; i++) x.report(0, 0, 9, 9);
        due("the first of six", x.liar(), 0);
        x.forget();
        x.report(0, 0, 0, 99);
        x.report(0, 0, 9, 9);
        x.report(0, 0, 18, 18);
        due("of two the least", x.liar(), 1);
        x.report(0, 0, 18, 18);
        due("now the second alone", x.liar(), 1);
        for (int low = 9; low <= 18; low += 9) {
            x.forget();
            x.report(0, 0, low, low);
            x.report(0, 0, 27 - low, 27 - low);
            due("of two the least, whichever way", x.liar(), 0);
        }
        // Coats of BULK 0 by their CREASE PAY in 8, 6, 5, 3, 2, and no WASHES.
        x.forget();
        x.report(0, 0, 0, 0);
        x.report(15, 0, 60, 60);
        x.report(15, 1, 5, 5);
        lone(x, 1, 2, 2, 0);
        due("one FITS", x.liar(), NONE);
        x.forget();
        x.report(0, 0, 18, 18);
        x.report(0, 0, 18, 18);
        x.report(0, 0, 9, 9);
        x.report(0, 0, 9, 9);
        due("two against two", x.liar(), NONE);
        x.forget();
        // Behind WASH 0 linen has as much as at first; coats 4 more.
        x.report(0, 0, 0, 0);
        x.report(1, 0, 4, 4);
        due("a coat", x.liar(), NONE);
        x.report(3, 0, 3, 3);
        due("but for the third it is a coat, but for the second linen", x.liar(), 1);
        x.report(2, 0, 8, 8);
        due("but for the third it is a coat", x.liar(), 2);
    }

    private static void lots() {
        says("LOT: A WASHE by chance: z (an int; 1 at first) becomes z * 1103515245 + 12345; the ACT in it is what z >>> 16 leaves by how many THINGS there are and 1.",
            "A WASHE by LOT: what it was WORTH. STATE: it is OVER.");
        // z is 1103527590, -1770082073, 662824084, -999580867, ..: z >>> 16 is 16838, 38526, 10113, 50283, 63819, 38395, 55778, 40187, 48980, 4086, 2749, 12767.
        // By 7 that leaves 3, 5, 5, 2, 0, 0, 2, 0, 1, 5, 5, 6.
        int[] worth = {5, 6, 2, 7, 3, 3, 3, 3, 8, 4, 4, 9};
        int[] flat = {4, 20, 20, 22, 22, 22, 22, 22, 23, 23, 23, 55};
        Counted x = new Counted();
        for (int k = 0; k < 6; k++) x.thing(4, 0, 0, 0);
        allIrons(x, 0);
        for (int i = 0; i < 12; i++) {
            due("LOT " + i, x.lot(), worth[i]);
            due("FLAT behind it", x.state(4), flat[i]);
        }
        due("SCORE", x.state(2), 57);
        due("WASH", x.state(0), 12);
        due("z", x.seed(0), 836760821);
        x.seed(1);
        refused(STATE, x, v -> x.lot());
        due("z stays, it is OVER", x.seed(2), 1);
        Counted none = new Counted();
        due("no THINGS", none.lot(), 0);
        due("z", none.seed(0), 1103527590);
        due("z is 12345, so the ACT is 0", none.lot(), 0);
        due("z", none.seed(0), 12345);
        Counted y = with(4, 0, 0, 0, 4, 0, 0, 0);
        y.lot();
        due("by 3 the first leaves 2", y.state(4), 2);
        y.lot();
        due("z wraps", y.seed(0), -1770082073);
        due("by 3 the second leaves 0", y.state(4), 2);

        says("z becomes v: what it was.");
        Counted z = new Counted();
        due("1 at first", z.seed(LOW), 1);
        due("the lowest", z.seed(HIGH), LOW);
        due("the highest", z.seed(-1), HIGH);
        due("as low as a refusal", z.seed(0), -1);
        due("0", z.seed(0), 0);
    }

    private static void times() {
        says("How many of n (1 to 40) times all WASHES yet by LOT, each from how it is now (z goes on from one to the next), are WORTH v (0 to 999) or more (all is as it was in the end, z, too). BAD.");
        // By 2 the LOTS leave 0, 0, 1, 1, 1, 1, 0, 1, 0, 0, 1, 1: told, linen PAYS 4, and 1 as it is FLAT.
        Counted x = with(4, 0, 0, 0);
        allIrons(x, 0);
        x.ends(1);
        int[][] told = {{1, 0, 1}, {1, 1, 0}, {2, 1, 0}, {3, 1, 1}, {6, 1, 4}, {7, 1, 4}, {12, 1, 7}, {12, 5, 7}, {12, 6, 0}, {12, 0, 12}, {40, 0, 40}, {40, 6, 0}, {40, 999, 0}, {1, 999, 0}};
        asks(x, () -> {
            for (int[] t : told) due("times(" + t[0] + ", " + t[1] + ")", x.times(t[0], t[1]), t[2]);
        });
        refused(BAD, x, ints(0, -1, 41, LOW, HIGH), v -> x.times(v, 0));
        refused(BAD, x, ints(-1, 1000, LOW, HIGH), v -> x.times(1, v));
        due("z", x.seed(1), 1);
        // Two WASHES a time: 0 0, 1 1, 1 1, 0 1, 0 0, 1 1.
        x.ends(2);
        int[][] ofTwo = {{1, 1, 0}, {2, 1, 1}, {6, 1, 4}, {6, 5, 4}, {6, 6, 3}, {6, 7, 0}, {4, 5, 3}, {4, 6, 2}};
        for (int[] t : ofTwo) due("of two WASHES times(" + t[0] + ", " + t[1] + ")", x.times(t[0], t[1]), t[2]);
        x.wash();
        due("from how it is now: it is FLAT, WORTH 1", x.times(12, 1), 12);
        due("one WASHE is left", x.times(12, 2), 0);
        due("SCORE doesn't count", x.times(12, 5), 0);
        x.wash();
        due("OVER", x.times(40, 0), 40);
        due("OVER", x.times(40, 1), 0);
        refused(BAD, x, ints(0, 41), v -> x.times(v, 1));
        // What they are WORTH may be as much as 6 a WASHE.
        Counted y = with(1, 0, 0, 0, 1, 0, 0, 0, 1, 0, 0, 0, 1, 0, 0, 0, 1, 0, 0, 0, 1, 0, 0, 0);
        for (int k = 0; k < 6; k++) y.change(k, 4, 1);
        y.ends(16);
        due("96", y.times(2, 96), 2);
        due("97", y.times(2, 97), 0);
    }

    public static void main(String[] args) {
        reports();
        loneThings();
        leastOfThose();
        asked();
        liars();
        lots();
        times();
        done("StrangersTest");
    }
}
