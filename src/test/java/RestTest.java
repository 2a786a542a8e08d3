/** Part 3 of the document, what is asked of THE REST, FAT, LEAST, LEFT and PILES, sentence by sentence, at its edges. */
public final class RestTest extends Told {
    private static void rest() {
        says("THE REST: all WASHES yet, in each the least THING being told that MAY be pressed (none, if there is none).");
        // Copper NEEDS 30, the hat is left, linen folds: the fields are pressed, the lesser ahead.
        Counted x = with(1, 0, 0, 0, 3, 0, 0, 0, 4, 0, 0, 0, 5, 0, 0, 0, 5, 0, 0, 0);
        due("RULES", rules(x, "hat leave; field press; linen fold;"), 3);
        int[] on = {0, 5, 11, 13, 15};
        for (int n = 0; n < 5; n++) due("on(" + n + ")", x.on(n), on[n]);
        due("4, and 1 is FLAT", x.wash(), 5);
        due("the fourth", x.state(4), 8);
        due("4, and 2 are FLAT", x.wash(), 6);
        due("the fourth and the fifth", x.state(4), 24);
        due("none is told", x.wash(), 2);
        due("linen doesn't fold in THE REST", x.thingOf(2, 2), 0);
        Counted y = with(4, 0, 0, 0, 4, 48, 0, 0);
        due("the least it is, though another PAYS 8", y.wash(), 5);
        due("the least", y.state(4), 1);
        due("then the other, in WASH 1", y.wash(), 10);
        Counted none = new Counted();
        due("no THINGS: nothing", none.wash(), 0);
        due("no THINGS: nothing", none.on(16), 0);
        // The sixth: a coat of CREASE 9 NEEDS 13; of CREASE 5, on a BOARD of WEIGHT 1, 9.
        Counted six = with(1, 0, 0, 0, 1, 0, 0, 0, 1, 0, 0, 0, 1, 0, 0, 0, 1, 0, 0, 0, 2, 0, 9, 5);
        six.board(5, 0, 1);
        due("the sixth isn't pressed", six.on(16), 0);
        six.change(5, 2, 5);
        due("the sixth is", six.on(1), 5);
        due("the sixth is", six.when(5), 0);
    }

    private static void on() {
        says("What n (0 to 16) WASHES of THE REST (fewer, if it is OVER) are WORTH. BAD.");
        Counted x = with(4, 0, 0, 0);
        int[][] told = {{0, 0}, {1, 5}, {2, 6}, {11, 15}, {12, 16}, {13, 16}, {16, 16}};
        asks(x, () -> {
            for (int[] t : told) due("of 12: on(" + t[0] + ")", x.on(t[0]), t[1]);
        });
        refused(BAD, x, ints(-1, 17, LOW, HIGH), x::on);
        x.ends(16);
        due("of 16", x.on(16), 20);
        due("15 of 16", x.on(15), 19);
        x.ends(1);
        due("of 1", x.on(16), 5);
        x.wash();
        due("it is OVER", x.on(16), 0);
        due("it is OVER", x.on(1), 0);
        refused(BAD, x, ints(-1, 17), x::on);
        due("SCORE is that of the one WASHE that went by", x.state(2), 5);
        due("it is OVER", with().on(0), 0);
    }

    private static void when() {
        says("The first WASH of THE REST behind which a THING is FLAT. BAD; NONE (also if it is now).");
        Counted x = with(4, 0, 0, 0, 1, 0, 0, 0);
        due("WASH 0", x.when(0), 0);
        due("never", x.when(1), NONE);
        refused(BAD, x, ints(-1, 2, LOW, HIGH), x::when);
        rules(x, "linen if wash < 11 leave;");
        due("the last WASH", x.when(0), 11);
        x.ends(11);
        due("not in time", x.when(0), NONE);
        rules(x, "linen if wash < 15 leave;");
        x.ends(16);
        due("WASH 15", x.when(0), 15);
        rules(x, "linen if wash < 4 leave;");
        x.wash();
        x.wash();
        x.wash();
        asks(x, () -> due("told as a WASH, not from now on", x.when(0), 4));
        x.wash();
        x.wash();
        due("it is FLAT now", x.when(0), NONE);
        // FLAT now, undone in WASH 5, pressed again in WASH 6: BULK 25 and 2, half of 4 is 2.
        irons(x, 9, 9, 9, 9, 9, 3, 4);
        due("also if it is so again later", x.when(0), NONE);
        x.wash();
        due("it is not now", x.when(0), 6);
        Counted y = with(4, 0, 0, 0);
        irons(y, 15, 12, 3);
        due("pressed and undone in WASH 0, pressed in WASH 1, undone in WASH 2", y.when(0), 1);
        y.ends(1);
        due("it is OVER behind WASH 0", y.when(0), NONE);
        y.wash();
        due("it is OVER", y.when(0), NONE);
    }

    private static void creaseFor() {
        says("CREASE with which a THING makes THE REST WORTH most; of several the least. BAD.");
        Counted x = with(4, 0, 7, 0, 1, 0, 5, 0);
        asks(x, () -> due("all do: the least", x.creaseFor(0), 0));
        due("for none it counts: the least", x.creaseFor(1), 0);
        refused(BAD, x, ints(-1, 2, LOW, HIGH), x::creaseFor);
        int[][] told = {{1, 1}, {5, 5}, {8, 8}, {9, 9}, {10, 0}};
        for (int[] t : told) {
            rules(x, "linen if crease < " + t[0] + " leave;");
            due("left below " + t[0], x.creaseFor(0), t[1]);
        }
        rules(x, "linen if crease > 0 leave;");
        due("left above 0", x.creaseFor(0), 0);
        rules(x, "linen if not crease = 9 leave;");
        x.change(0, 4, 1);
        due("it is FLAT: the least", x.creaseFor(0), 0);
        x.change(0, 4, 0);
        due("it isn't", x.creaseFor(0), 9);
        x.ends(1);
        x.wash();
        due("it is OVER: the least", x.creaseFor(0), 0);
        Counted last = with(4, 0, 0, 0);
        last.ends(16);
        rules(last, "linen if wash < 15 or crease < 3 leave;");
        due("WASH 15 counts", last.creaseFor(0), 3);
        // One WASH: a coat of BULK 0 PAYS 4 up to CREASE 4, and then the linen that PAYS 8 isn't told.
        Counted y = with(2, 0, 0, 0, 4, 48, 0, 0);
        y.ends(1);
        due("5, with CREASE 0", y.on(16), 5);
        due("THE REST is WORTH 9 if the coat stays", y.creaseFor(0), 5);
        due("it doesn't count for the linen, the coat is told", y.creaseFor(1), 0);
    }

    private static void boardFor() {
        says("BOARD likewise. BAD.");
        // A coat of CREASE 5 NEEDS 9, PRESS is 8 and the WEIGHT; it SWELLS, so it is pressed in WASH 0 or not at all.
        Counted x = with(2, 0, 5, 3);
        x.ends(1);
        asks(x, () -> due("none does: the least", x.boardFor(0), 0));
        refused(BAD, x, ints(-1, 1, LOW, HIGH), x::boardFor);
        x.board(5, 0, 1);
        due("the last alone", x.boardFor(0), 5);
        x.board(2, 0, 9);
        due("two: the least", x.boardFor(0), 2);
        x.board(0, 0, 1);
        due("three: the least", x.boardFor(0), 0);
        due("it stays on its own", x.thingOf(0, 3), 3);
        // Pressed in WASH 1: BULK 32 and 4 PAYS 7, and by a ROPE 32 and 1 PAYS 6.
        Counted y = with(2, 32, 0, 0);
        y.ends(2);
        irons(y, 1, 12);
        for (int f = 0; f < 5; f++) y.board(f, 1, 9);
        due("on BOARD 0", y.on(16), 7);
        due("on BOARD 5", y.boardFor(0), 5);
        y.board(1, 1, 2);
        due("a third of 2 is none", y.boardFor(0), 1);
        y.board(1, 1, 3);
        due("a third of 3 is 1", y.boardFor(0), 5);
        Counted last = with(2, 0, 9, 0);
        last.ends(16);
        allIrons(last, 0);
        last.iron(15, 12);
        last.board(4, 0, 7);
        // BULK is 30 ahead of WASH 15: it NEEDS 18.
        due("WASH 15 counts", last.boardFor(0), 4);
        // By what is FLAT there: a coat of CREASE 6 NEEDS 10.
        Counted z = with(4, 0, 0, 4, 2, 0, 6, 0);
        z.ends(1);
        z.change(0, 4, 1);
        due("where linen is FLAT", z.boardFor(1), 4);
        z.change(0, 3, 2);
        due("where linen is FLAT", z.boardFor(1), 2);
        due("it doesn't count for one that is FLAT", z.boardFor(0), 0);
    }

    private static void fat() {
        says("FAT: the first WASH, from WASH on, as which it is when BULK of it is 60 or more, in THE REST.", "FAT (WASH itself, if BULK is 60 or more now). BAD; NONE.");
        // A coat of CREASE 9 is not pressed; it swells by 4. That WASH 12, which is END, counts is a reading, see NOTES.md.
        int[][] told = {{99, 0}, {61, 0}, {60, 0}, {59, 1}, {56, 1}, {55, 2}, {20, 10}, {16, 11}, {15, 12}, {12, 12}, {11, NONE}, {0, NONE}};
        for (int[] t : told) {
            Counted x = with(2, t[0], 9, 0);
            asks(x, () -> due("of BULK " + t[0], x.fat(0), t[1]));
        }
        Counted c = with(1, 59, 0, 0, 1, 60, 0, 0);
        due("copper of 59", c.fat(0), NONE);
        due("copper of 60", c.fat(1), 0);
        refused(BAD, c, ints(-1, 2, LOW, HIGH), c::fat);
        Counted x = with(2, 40, 9, 0, 2, 16, 9, 1);
        for (int w = 0; w < 3; w++) x.wash();
        due("52 in WASH 3, 60 in WASH 5", x.fat(0), 5);
        due("28 in WASH 3, 60 in WASH 11", x.fat(1), 11);
        x.ends(11);
        due("as it is OVER", x.fat(1), 11);
        x.ends(10);
        due("it is OVER ahead of that", x.fat(1), NONE);
        x.change(1, 1, 60);
        due("WASH itself", x.fat(1), 3);
        x.ends(3);
        due("WASH itself, though it is OVER", x.fat(1), 3);
        x.change(1, 1, 59);
        due("it is OVER", x.fat(1), NONE);
        Counted y = with(4, 59, 0, 0, 4, 60, 0, 0, 2, 0, 9, 0);
        due("pressed ahead of that", y.fat(0), NONE);
        due("WASH itself, ahead of being pressed", y.fat(1), 0);
        y.change(1, 4, 1);
        due("FLAT, but BULK 60", y.fat(1), 0);
        y.change(1, 1, 59);
        due("FLAT, BULK is 0 behind a WASH", y.fat(1), NONE);
        // 4 a WASH, but 2 in the first: 58 behind 15, 62 behind 16.
        Counted last = with(2, 0, 9, 0);
        last.ends(16);
        last.iron(0, 8);
        due("behind WASH 15", last.fat(0), 16);
        last.ends(15);
        due("it is OVER", last.fat(0), NONE);
        // Undone: 25 and 8, then 8 more a WASH: 33, 41, 49, 57, 65.
        Counted z = with(2, 0, 9, 0);
        allIrons(z, 3);
        z.change(0, 4, 1);
        due("undone in WASH 0", z.fat(0), 5);
    }

    private static void least() {
        says("LEAST of one: the least STEAM (0 to 3) with which it would PAY more than 0 now (WILL doesn't count).", "LEAST of a THING. BAD; NONE: it is FLAT, or with none.");
        // A coat of BULK 0 NEEDS 4 and CREASE.
        int[] byCrease = {1, 2, 2, 2, 2, 3, 3, 3, 3, NONE};
        Counted x = with(2, 0, 0, 2, 1, 0, 0, 2, 4, 0, 0, 2);
        for (int crease = 0; crease < 10; crease++) {
            x.change(0, 2, crease);
            due("of CREASE " + crease, x.least(0), byCrease[crease]);
        }
        x.change(0, 2, 0);
        due("linen NEEDS 0", x.least(2), 0);
        due("copper NEEDS 30", x.least(1), NONE);
        x.board(2, 0, 4);
        due("by WEIGHT alone", x.least(0), 0);
        x.board(2, 0, 3);
        due("by 3 and 4", x.least(0), 1);
        int[] irons = {0, 5, 10, 15};
        for (int v : irons) {
            x.iron(0, v);
            asks(x, () -> due("the STEAM of now doesn't count", x.least(0), 1));
        }
        rules(x, "thing leave;");
        due("WILL doesn't count", x.least(0), 1);
        rules(x, "thing fold;");
        due("WILL doesn't count", x.least(0), 1);
        x.board(2, 0, 0);
        x.change(0, 2, 5);
        due("NEEDS 9", x.least(0), 3);
        x.change(2, 4, 1);
        due("8 and 2 for what is FLAT there", x.least(0), 2);
        due("it is FLAT", x.least(2), NONE);
        x.change(0, 1, 12);
        due("BULK counts: it NEEDS 11", x.least(0), 3);
        refused(BAD, x, ints(-1, 3, LOW, HIGH), x::least);
        x.change(2, 4, 0);
        x.board(2, 0, 9);
        due("0 is the least STEAM, whatever the WEIGHT", x.least(2), 0);
        Counted y = with(1, 0, 0, 0, 1, 0, 0, 0, 1, 0, 0, 0, 1, 0, 0, 0, 1, 0, 0, 0, 1, 0, 0, 0);
        y.board(0, 0, 9);
        for (int k = 1; k < 6; k++) y.change(k, 4, 1);
        due("copper by 12, 9 and 10", y.least(0), 3);
        y.ends(1);
        y.wash();
        due("it is OVER, that doesn't count", y.least(0), 3);
    }

    private static void left() {
        says("LEFT by n: BULK of all together, those that are FLAT, behind n WASHES of THE REST (fewer, if it is OVER).", "LEFT by n (0 to 16): what 0 BULK of all together, 1 those that are FLAT, as a set. BAD.");
        Counted x = with(1, 40, 0, 0, 4, 10, 0, 0, 2, 0, 9, 1);
        int[][] told = {{0, 50, 0}, {1, 44, 2}, {2, 48, 2}, {11, 84, 2}, {12, 88, 2}, {13, 88, 2}, {16, 88, 2}};
        asks(x, () -> {
            for (int[] t : told) {
                due("BULK left by " + t[0], x.left(t[0], 0), t[1]);
                due("FLAT by " + t[0], x.left(t[0], 1), t[2]);
            }
        });
        refused(BAD, x, ints(-1, 17, LOW, HIGH), v -> x.left(v, 0));
        refused(BAD, x, ints(-1, 17, LOW, HIGH), v -> x.left(v, 1));
        refused(BAD, x, ints(-1, 2, LOW, HIGH), v -> x.left(0, v));
        x.ends(16);
        due("by 15 of 16", x.left(15, 0), 100);
        due("by 16 of 16", x.left(16, 0), 104);
        x.ends(1);
        due("by 1 of 1", x.left(16, 0), 44);
        x.wash();
        x.change(1, 1, 7);
        due("it is OVER: as it is, BULK of one that is FLAT too", x.left(16, 0), 51);
        due("it is OVER: as it is", x.left(16, 1), 2);
        x.ends(2);
        due("behind a WASHE that is 0", x.left(1, 0), 48);
        x.iron(1, 3);
        due("undone, so it is 25, and 1, and the coat's 8", x.left(1, 0), 40 + 26 + 12);
        due("undone", x.left(1, 1), 0);
    }

    private static void piles() {
        says("CLOSE: two THINGS that aren't FLAT, of the same BOARD, or CREASED the same; a PILE: all that hang together so, one by the other.");
        // 0, 1, 2, 3, 4, 5 as a chain, by BOARD and by CREASE in turn.
        Counted x = with(1, 0, 1, 0, 2, 0, 2, 0, 3, 0, 2, 1, 4, 0, 3, 1, 5, 0, 3, 2, 1, 0, 4, 2);
        due("one", x.piles(-1), 1);
        asks(x, () -> {
            for (int k = 0; k < 6; k++) due("of " + k, x.piles(k), 63);
        });
        x.change(2, 4, 1);
        due("the third parts them", x.piles(-1), 2);
        int[] piles = {3, 3, 0, 56, 56, 56};
        for (int k = 0; k < 6; k++) due("of " + k, x.piles(k), piles[k]);
        x.change(4, 4, 1);
        due("the fifth, too", x.piles(-1), 3);
        due("the fourth alone", x.piles(3), 8);
        due("the sixth alone", x.piles(5), 32);
        for (int k = 0; k < 6; k++) x.change(k, 4, 1);
        due("all are FLAT", x.piles(-1), 0);
        due("all are FLAT", x.piles(0), 0);
        // The chain told the other way round, so that the first hangs by the last.
        Counted y = with(1, 0, 4, 2, 1, 0, 3, 2, 1, 0, 3, 1, 1, 0, 2, 1, 1, 0, 2, 0, 1, 0, 1, 0);
        due("one", y.piles(-1), 1);
        due("of the last", y.piles(5), 63);
        y.change(0, 3, 5);
        due("the first is alone", y.piles(0), 1);
        due("the others", y.piles(1), 62);
        y.change(0, 2, 1);
        due("CREASED as the last", y.piles(0), 63);
        // Two by turns: 0, 2, 4 on BOARD 0, 1, 3, 5 on BOARD 1.
        Counted turns = with(1, 0, 0, 0, 1, 0, 1, 1, 1, 0, 2, 0, 1, 0, 3, 1, 1, 0, 4, 0, 1, 0, 5, 1);
        due("two", turns.piles(-1), 2);
        for (int k = 0; k < 6; k++) due("of " + k, turns.piles(k), k % 2 == 0 ? 21 : 42);
        // BULK and KIND don't count.
        Counted z = with(1, 7, 0, 0, 1, 7, 1, 1, 1, 7, 2, 2, 1, 7, 3, 3, 1, 7, 4, 4, 1, 7, 5, 5);
        due("six alone", z.piles(-1), 6);
        for (int k = 0; k < 6; k++) due("of " + k, z.piles(k), 1 << k);
        says("PILES: what -1 how many, 0 .. 5 THINGS of that THING's PILE, as a set (0: it is FLAT). BAD: also no such THING.");
        refused(BAD, z, ints(-2, 6, LOW, HIGH), z::piles);
        Counted two = with(1, 0, 0, 0, 4, 0, 0, 3);
        due("CREASED the same", two.piles(-1), 1);
        due("both", two.piles(0), 3);
        refused(BAD, two, ints(2, 3, 4, 5), two::piles);
        two.wash();
        due("linen is pressed", two.piles(1), 0);
        due("copper alone", two.piles(0), 1);
        Counted none = new Counted();
        due("no THINGS", none.piles(-1), 0);
        refused(BAD, none, ints(0, 5), none::piles);
    }

    public static void main(String[] args) {
        rest();
        on();
        when();
        creaseFor();
        boardFor();
        fat();
        least();
        left();
        piles();
        done("RestTest");
    }
}
