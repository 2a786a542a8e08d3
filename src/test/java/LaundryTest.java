/** Part 1 of the document, THE LAUNDRY, sentence by sentence, at its edges. Answers are worked out from the document. */
public final class LaundryTest extends Told {
    private static void washesAndEnd() {
        says("END is 1 to 16 (12 at first)");
        Counted x = new Counted();
        due("at first", x.state(1), 12);
        due("12 becomes 1", x.ends(1), 12);
        due("the least", x.state(1), 1);
        due("1 becomes 16", x.ends(16), 1);
        due("the greatest", x.state(1), 16);
        refused(BAD, x, ints(0, 17, -1, LOW, HIGH), x::ends);

        says("WASHES are 0, 1, ..", "WASH: the one that comes (0 at first)");
        for (int w = 0; w < 16; w++) {
            due("WASH", x.state(0), w);
            x.wash();
        }
        due("the greatest WASH", x.state(0), 16);

        says("from END on it is OVER");
        for (int end = 1; end <= 16; end++) {
            Counted y = new Counted();
            y.ends(end);
            for (int w = 0; w < end; w++) {
                due("OVER ahead of WASH " + w + " of " + end, y.state(3), 0);
                due("WASH " + w, y.wash(), 0);
            }
            due("OVER as WASH is END", y.state(3), 1);
            refused(STATE, y, v -> y.wash());
            due("it stays", y.state(0), end);
        }
        Counted z = with(4, 30, 0, 0);
        z.ends(2);
        z.wash();
        due("END - 1 is the last WASH", z.state(3), 0);
        z.wash();
        due("OVER", z.state(3), 1);
        due("END becomes 3", z.ends(3), 2);
        due("it is not OVER any more", z.state(3), 0);
        due("what is FLAT is WORTH 1", z.wash(), 1);
    }

    private static void endsBelowWash() {
        says("END becomes v: what it was. BAD; STATE: v is below WASH.");
        Counted x = new Counted();
        for (int w = 0; w < 3; w++) x.wash();
        refused(STATE, x, ints(1, 2), x::ends);
        due("WASH itself is not below", x.ends(3), 12);
        due("then it is OVER", x.state(3), 1);
        refused(BAD, x, ints(0, 17), x::ends);
        x.ends(16);
        for (int w = 3; w < 16; w++) x.wash();
        refused(STATE, x, ints(1, 15), x::ends);
        due("16 is not below 16", x.ends(16), 16);
    }

    private static void ironsOfWashes() {
        says("WASHES 0 to 15 each have an IRON: 4 times STEAM (0 to 3), and SIGH (0 to 3); 9 at first");
        Counted x = new Counted();
        for (int w = 0; w < 16; w++) due("at first, of WASH " + w, x.iron(w, w), 9);
        for (int w = 0; w < 16; w++) due("its own, of WASH " + w, x.iron(w, 15), w);
        refused(BAD, x, ints(-1, 16, LOW, HIGH), v -> x.iron(v, 0));
        refused(BAD, x, ints(-1, 16, LOW, HIGH), v -> x.iron(0, v));
        // A coat SWELLS by 2 for 1 and SIGH; of BULK 0 it NEEDS 4 and CREASE, PRESS is 4 for each of STEAM.
        int[] swells = {2, 4, 6, 8};
        int[][] pays = {{0, 0, 0, 0}, {4, 0, 0, 0}, {4, 4, 0, 0}, {4, 4, 4, 0}};
        Counted y = with(2, 0, 0, 0, 2, 0, 4, 0, 2, 0, 8, 0, 2, 0, 9, 0);
        for (int v = 0; v < 16; v++) {
            y.iron(0, v);
            due("IRON of WASH", y.state(5), v);
            due("SIGH of " + v, y.thingOf(0, 5), swells[v % 4]);
            for (int k = 0; k < 4; k++) due("STEAM of " + v + " on " + k, y.thingOf(k, 7), pays[v / 4][k]);
        }
        due("the IRON of another WASH doesn't count", y.iron(1, 0), 9);
        due("the IRON of another WASH doesn't count", y.thingOf(0, 5), 8);
    }

    private static void behindWash15() {
        says("(behind WASH 15: 0)");
        // Copper, so that none is pressed on the way; then as others.
        Counted x = with(1, 0, 0, 0, 1, 0, 0, 0, 1, 0, 0, 0);
        allIrons(x, 15);
        x.ends(16);
        for (int w = 0; w < 15; w++) x.wash();
        due("WASH 15 has its IRON", x.state(5), 15);
        due("SIGH 3 at WASH 15", x.remake(0, 2), 1);
        due("SIGH 3 at WASH 15", x.thingOf(0, 5), 8);
        x.remake(0, 1);
        x.wash();
        due("IRON", x.state(5), 0);
        x.remake(0, 2);
        x.remake(1, 3);
        x.remake(2, 4);
        due("SIGH is 0: a coat's 2", x.thingOf(0, 5), 2);
        due("SIGH is 0: a hat's 2 less 3", x.thingOf(1, 5), 0);
        due("WASH 16 leaves 1 by 3", x.thingOf(2, 5), 1);
        due("STEAM is 0: a coat NEEDS 4", x.thingOf(0, 7), 0);
        due("STEAM is 0: linen NEEDS 0", x.thingOf(2, 7), 4);
        due("that MAY be pressed, though it is OVER", x.thingOf(2, 8), 1);
        rules(x, "hat if steam = 0 leave; linen if wash = 16 fold;");
        due("STEAM as a FACT", x.thingOf(1, 9), 1);
        due("WASH as a FACT", x.thingOf(2, 9), 2);
    }

    private static void boards() {
        says("BOARDS 0 to 5 each have a WEIGHT, a ROPE (0 to 9; 0 at first)");
        Counted x = new Counted();
        for (int f = 0; f < 6; f++) {
            due("WEIGHT at first, of " + f, x.boardOf(f, 0), 0);
            due("ROPE at first, of " + f, x.boardOf(f, 1), 0);
        }
        for (int f = 0; f < 6; f++) {
            due("WEIGHT of " + f, x.board(f, 0, 9), 0);
            due("ROPE of " + f, x.board(f, 1, f), 0);
            due("WEIGHT of " + f, x.boardOf(f, 0), 9);
        }
        for (int f = 0; f < 6; f++) {
            due("WEIGHT of " + f, x.board(f, 0, 0), 9);
            due("ROPE of " + f, x.board(f, 1, 9), f);
            due("WEIGHT of " + f, x.boardOf(f, 0), 0);
            due("ROPE of " + f, x.boardOf(f, 1), 9);
        }
        refused(BAD, x, ints(-1, 6, LOW, HIGH), v -> x.board(v, 0, 0));
        refused(BAD, x, ints(-1, 6, LOW, HIGH), v -> x.board(v, 1, 0));
        refused(BAD, x, ints(-1, 2, LOW, HIGH), v -> x.board(0, v, 0));
        refused(BAD, x, ints(-1, 10, LOW, HIGH), v -> x.board(5, 0, v));
        refused(BAD, x, ints(-1, 10, LOW, HIGH), v -> x.board(5, 1, v));
        refused(BAD, x, ints(-1, 6, LOW, HIGH), v -> x.boardOf(v, 0));
        refused(BAD, x, ints(-1, 2, LOW, HIGH), v -> x.boardOf(5, v));
    }

    private static void score() {
        says("SCORE: what WASHES were WORTH (0 at first)");
        Counted x = with(2, 12, 0, 0);
        due("at first", x.state(2), 0);
        due("5 and 1", x.wash(), 6);
        due("of one WASH", x.state(2), 6);
        due("by LOT", x.lot(), 1);
        due("of two", x.state(2), 7);
        due("by ACTS on a SHEET", tell(x, 0), 1);
        due("of three", x.state(2), 8);
        asks(x, () -> {
            x.on(16);
            x.times(3, 1);
            x.best(4);
            x.game(4);
            x.wouldBe(3, 0, 1);
        });
        x.ends(3);
        refused(STATE, x, v -> x.wash());
        due("none more, it is OVER", x.state(2), 8);
        x.anew();
        due("anew", x.state(2), 0);
    }

    private static void things() {
        says("THINGS, 6 at most, numbered as they come: a KIND, BULK (0 to 99), CREASE (0 to 9), a BOARD; FLAT or not (at first).");
        Counted x = new Counted();
        int[][] made = {{1, 0, 0, 0}, {5, 99, 9, 5}, {2, 1, 2, 3}, {3, 98, 8, 4}, {4, 50, 5, 1}, {5, 7, 1, 2}};
        for (int k = 0; k < 6; k++) {
            due("how many", x.many(0), k);
            due("its number", x.thing(made[k][0], made[k][1], made[k][2], made[k][3]), k);
        }
        for (int k = 0; k < 6; k++) {
            for (int what = 0; what < 4; what++) due("thingOf(" + k + ", " + what + ")", x.thingOf(k, what), made[k][what]);
            due("FLAT at first", x.thingOf(k, 4), 0);
        }
        refused(FULL, x, v -> x.thing(1, 0, 0, 0));
        refused(FULL, x, v -> x.thing(5, 99, 9, 5));
        due("six stay", x.many(0), 6);
        Counted y = new Counted();
        refused(BAD, y, ints(0, 6, -1, LOW, HIGH), v -> y.thing(v, 0, 0, 0));
        refused(BAD, y, ints(-1, 100, LOW, HIGH), v -> y.thing(1, v, 0, 0));
        refused(BAD, y, ints(-1, 10, LOW, HIGH), v -> y.thing(1, 0, v, 0));
        refused(BAD, y, ints(-1, 6, LOW, HIGH), v -> y.thing(1, 0, 0, v));
    }

    private static void noSuchThing() {
        says("BAD (-1) there is no such thing, or a number is not as told");
        Counted none = new Counted();
        refused(BAD, none, ints(0, -1, 5), v -> none.thingOf(v, 0));
        refused(BAD, none, ints(0, -1, 5), v -> none.change(v, 1, 0));
        refused(BAD, none, ints(0, -1, 5), v -> none.remake(v, 1));
        refused(BAD, none, ints(0, -1, 5), none::when);
        refused(BAD, none, ints(0, -1, 5), none::creaseFor);
        refused(BAD, none, ints(0, -1, 5), none::boardFor);
        refused(BAD, none, ints(0, -1, 5), none::fat);
        refused(BAD, none, ints(0, -1, 5), none::least);
        refused(BAD, none, ints(0, 5, -2), none::piles);
        Counted x = with(2, 0, 0, 0, 4, 0, 0, 1);
        for (int what = 0; what < 10; what++) {
            int w = what;
            refused(BAD, x, ints(2, -1, LOW, HIGH), v -> x.thingOf(v, w));
        }
        refused(BAD, x, ints(10, -1, LOW, HIGH), v -> x.thingOf(1, v));
        due("the last there is", x.thingOf(1, 0), 4);
    }

    private static void kinds() {
        says("KINDS: 0 thing; 1 copper, 2 coat, 4 linen (under thing); 3 hat (under coat); 5 field (under linen).");
        String[] names = {"thing", "copper", "coat", "hat", "linen", "field"};
        String[] under = {"11111", "10000", "01100", "00100", "00011", "00001"};
        Counted x = with(1, 0, 0, 0, 2, 0, 0, 0, 3, 0, 0, 0, 4, 0, 0, 0, 5, 0, 0, 0);
        for (int kind = 0; kind < 6; kind++) {
            due("RULES", rules(x, names[kind] + " leave;"), 1);
            for (int k = 0; k < 5; k++) {
                boolean is = under[kind].charAt(k) == '1';
                due("WILL of " + names[k + 1] + " by " + names[kind], x.thingOf(k, 9), is ? 1 : 0);
                x.shelf(0, 0, k);
                due(names[k + 1] + " taken for " + names[kind], x.taken(0, kind), is ? k : OTHER_SORT);
            }
        }
    }

    private static void swellsOfKinds() {
        int[] ofCoat = {2, 4, 6, 8};
        int[] ofHat = {0, 1, 3, 5};
        Counted x = with(1, 0, 0, 0, 2, 0, 0, 0, 3, 0, 0, 0, 4, 0, 0, 0);
        says("thing: 1 and SIGH.", "coat: twice a thing.");
        for (int v = 0; v < 16; v++) {
            x.iron(0, v);
            due("a coat at IRON " + v, x.thingOf(1, 5), ofCoat[v % 4]);
        }
        says("hat: as coat, less 3 (0 at least).");
        for (int v = 0; v < 16; v++) {
            x.iron(0, v);
            due("a hat at IRON " + v, x.thingOf(2, 5), ofHat[v % 4]);
        }
        says("copper: 0.");
        for (int v = 0; v < 16; v += 3) {
            x.iron(0, v);
            due("copper at IRON " + v, x.thingOf(0, 5), 0);
            due("linen, in WASH 0, at IRON " + v, x.thingOf(3, 5), 0);
        }
    }

    private static void swellsByWash() {
        says("linen: what WASH leaves by 3.", "field: as linen, and its number.");
        int[] byWash = {0, 1, 2, 0, 1, 2, 0, 1, 2, 0, 1, 2, 0, 1, 2, 0, 1};
        Counted x = with(5, 0, 0, 0, 5, 0, 0, 0, 5, 0, 0, 0, 5, 0, 0, 0, 4, 0, 0, 0, 5, 0, 0, 0);
        x.ends(16);
        for (int w = 0; w <= 16; w++) {
            due("linen in WASH " + w, x.thingOf(4, 5), byWash[w]);
            for (int k : ints(0, 1, 2, 3, 5)) due("field " + k + " in WASH " + w, x.thingOf(k, 5), byWash[w] + k);
            x.wash();
        }
    }

    private static void ropes() {
        says("From that a third of the ROPE of its BOARD is taken (0 at least).");
        int[] coatOf2 = {2, 2, 2, 1, 1, 1, 0, 0, 0, 0};
        int[] coatOf8 = {8, 8, 8, 7, 7, 7, 6, 6, 6, 5};
        int[] hatOf1 = {1, 1, 1, 0, 0, 0, 0, 0, 0, 0};
        Counted x = with(2, 0, 0, 4, 3, 0, 0, 4, 1, 0, 0, 4, 4, 0, 0, 4);
        for (int rope = 0; rope < 10; rope++) {
            x.board(4, 1, rope);
            x.iron(0, 0);
            due("a coat of 2, ROPE " + rope, x.thingOf(0, 5), coatOf2[rope]);
            due("a hat of 0, ROPE " + rope, x.thingOf(1, 5), 0);
            due("copper, ROPE " + rope, x.thingOf(2, 5), 0);
            x.iron(0, 3);
            due("a coat of 8, ROPE " + rope, x.thingOf(0, 5), coatOf8[rope]);
            x.iron(0, 1);
            due("a hat of 1, ROPE " + rope, x.thingOf(1, 5), hatOf1[rope]);
        }
        x.change(0, 3, 3);
        due("the ROPE of another BOARD doesn't count", x.thingOf(0, 5), 4);
        x.board(3, 0, 9);
        due("a WEIGHT doesn't count", x.thingOf(0, 5), 4);
        Counted y = with(1, 0, 0, 1, 1, 0, 0, 1, 1, 0, 0, 1, 1, 0, 0, 1, 1, 0, 0, 1, 5, 0, 9, 0);
        y.board(0, 1, 9);
        y.board(1, 1, 9);
        y.wash();
        y.wash();
        due("field 5 in WASH 2: 7 less 3", y.thingOf(5, 5), 4);
        y.remake(5, 4);
        due("linen in WASH 2: 2 less 3, 0 at least", y.thingOf(5, 5), 0);
        y.board(0, 1, 5);
        due("linen in WASH 2: 2 less 1", y.thingOf(5, 5), 1);
    }

    private static void needs() {
        // For each BULK and CREASE: what a coat, a hat, linen, a field NEED.
        int[][] told = {
            {0, 0, 4, 3, 0, 0}, {5, 0, 4, 3, 0, 0}, {6, 0, 5, 3, 0, 0}, {11, 0, 5, 3, 0, 0}, {12, 0, 6, 4, 1, 1},
            {0, 1, 5, 3, 0, 0}, {0, 2, 6, 4, 1, 2}, {0, 3, 7, 4, 1, 2}, {6, 1, 6, 4, 1, 1}, {6, 2, 7, 4, 1, 2},
            {59, 4, 17, 9, 6, 8}, {60, 4, 18, 10, 7, 9}, {95, 9, 28, 15, 12, 16}, {96, 9, 29, 15, 12, 16},
            {99, 9, 29, 15, 12, 16}, {99, 0, 20, 11, 8, 8}, {0, 9, 13, 7, 4, 8}, {36, 5, 15, 8, 5, 7},
        };
        Counted x = with(1, 0, 0, 0, 2, 0, 0, 0, 3, 0, 0, 0, 4, 0, 0, 0, 5, 0, 0, 0);
        says("NEEDS (by BULK, CREASE): thing: a sixth of BULK, and CREASE. copper: 30. coat: as thing, and 4. hat: half of a coat's, and 1. linen: half of a thing's. field: as linen, and half of CREASE.");
        for (int[] t : told) {
            for (int k = 0; k < 5; k++) {
                x.change(k, 1, t[0]);
                x.change(k, 2, t[1]);
                due("KIND " + (k + 1) + " of BULK " + t[0] + ", CREASE " + t[1], x.thingOf(k, 6), k == 0 ? 30 : t[k + 1]);
            }
        }
    }

    private static void press() {
        says("PRESS on a BOARD: 4 for each of STEAM, its WEIGHT, and 2 for each THING that is FLAT there.");
        // Copper NEEDS 30: STEAM 3 is 12, WEIGHT 9, and five of 2.
        Counted x = with(1, 0, 0, 2, 1, 0, 0, 2, 1, 0, 0, 2, 1, 0, 0, 2, 1, 0, 0, 2, 1, 0, 0, 2);
        x.iron(0, 12);
        x.board(2, 0, 9);
        for (int k = 1; k < 6; k++) {
            due("21 and " + 2 * (k - 1), x.thingOf(0, 7), 0);
            x.change(k, 4, 1);
        }
        due("31", x.thingOf(0, 7), 4);
        x.board(2, 0, 8);
        due("30", x.thingOf(0, 7), 4);
        x.board(2, 0, 7);
        due("29", x.thingOf(0, 7), 0);
        x.board(2, 0, 9);
        x.change(5, 3, 3);
        due("one is FLAT elsewhere: 29", x.thingOf(0, 7), 0);
        x.change(5, 3, 2);
        x.iron(0, 11);
        due("STEAM 2: 27", x.thingOf(0, 7), 0);
        x.iron(0, 12);
        x.board(2, 0, 0);
        x.board(1, 0, 9);
        due("the WEIGHT of another BOARD doesn't count", x.thingOf(0, 7), 0);
        // A coat of CREASE 5 NEEDS 9, one of CREASE 6 NEEDS 10: STEAM 2 is 8.
        Counted y = with(2, 0, 5, 0, 4, 0, 0, 0);
        due("8 of 9", y.thingOf(0, 7), 0);
        y.board(0, 0, 1);
        due("9 of 9", y.thingOf(0, 7), 4);
        y.change(0, 2, 6);
        due("9 of 10", y.thingOf(0, 7), 0);
        y.board(0, 0, 0);
        y.change(1, 4, 1);
        due("8 and 2 of 10", y.thingOf(0, 7), 4);
        y.change(0, 2, 7);
        due("8 and 2 of 11", y.thingOf(0, 7), 0);
    }

    private static void pays() {
        says("PAYS: 4, and a twelfth of BULK, if it is not FLAT, and PRESS on its BOARD is what it NEEDS, or more; else 0.");
        int[][] told = {{0, 4}, {11, 4}, {12, 5}, {23, 5}, {24, 6}, {47, 7}, {48, 8}, {95, 11}, {96, 12}, {99, 12}};
        Counted x = with(4, 0, 0, 0);
        x.iron(0, 12);
        for (int[] t : told) {
            x.change(0, 1, t[0]);
            due("linen of BULK " + t[0], x.thingOf(0, 7), t[1]);
        }
        x.change(0, 4, 1);
        due("it is FLAT, its BULK 99", x.thingOf(0, 7), 0);
        x.change(0, 4, 0);
        // Linen of BULK 99 NEEDS 8, and half of its CREASE.
        x.iron(0, 8);
        due("PRESS 8 of 8", x.thingOf(0, 7), 12);
        x.change(0, 2, 2);
        due("PRESS 8 of 9", x.thingOf(0, 7), 0);
        x.iron(0, 0);
        x.change(0, 2, 0);
        x.change(0, 1, 11);
        due("PRESS 0 of 0", x.thingOf(0, 7), 4);
        x.change(0, 1, 12);
        due("PRESS 0 of 1", x.thingOf(0, 7), 0);
    }

    private static void mayBePressed() {
        says("MAY be pressed: its WILL is to press, and it PAYS more than 0.");
        Counted x = with(4, 0, 0, 0, 1, 0, 0, 0);
        due("it will, and PAYS", x.thingOf(0, 8), 1);
        due("it will, and PAYS 0", x.thingOf(1, 8), 0);
        rules(x, "linen leave;");
        due("it will not", x.thingOf(0, 8), 0);
        due("but PAYS", x.thingOf(0, 7), 4);
        rules(x, "linen fold;");
        due("it will fold", x.thingOf(0, 8), 0);
        rules(x, "linen press;");
        due("it will, as a RULE tells", x.thingOf(0, 8), 1);
        x.change(0, 4, 1);
        due("it is FLAT", x.thingOf(0, 8), 0);
        due("the WILL of one that is FLAT", x.thingOf(0, 9), 0);
    }

    private static void toldOrNot() {
        says("(1) If a THING is told, and is not FLAT, it does as its WILL is");
        Counted x = with(1, 40, 3, 0, 1, 40, 3, 0);
        allIrons(x, 0);
        rules(x, "copper fold;");
        due("none is told", tell(x, 0), 0);
        due("nothing is done", x.thingOf(0, 2), 3);
        due("the second is told: a fold", tell(x, 2), 1);
        due("the first does nothing", x.thingOf(0, 2), 3);
        due("the second does", x.thingOf(1, 2), 4);
        x.change(1, 4, 1);
        due("one that is FLAT is told: it is WORTH 1 as such", tell(x, 2), 1);
        due("but doesn't fold", x.thingOf(1, 2), 4);

        says("press (if no RULE tells), leave, or fold");
        Counted y = with(4, 0, 0, 0, 2, 0, 0, 0);
        due("no RULES", y.thingOf(0, 9), 0);
        rules(y, "coat leave; linen if wash > 0 fold;");
        due("none of them tells", y.thingOf(0, 9), 0);
        due("leave", y.thingOf(1, 9), 1);
        y.ends(1);
        due("what is left is not pressed", tell(y, 2), 0);
        due("it SWELLS", y.thingOf(1, 1), 4);
        due("fold, in WASH 1", y.thingOf(0, 9), 2);
        says("the first of THE RULES whose KIND is its or above it, and whose condition holds, tells it");
        rules(y, "hat press; coat fold; thing leave;");
        due("a coat is no hat", y.thingOf(1, 9), 2);
        due("linen is a thing", y.thingOf(0, 9), 1);
        rules(y, "thing if bulk = 4 leave; coat fold; thing press;");
        due("the first that holds: BULK is 4", y.thingOf(1, 9), 1);
        rules(y, "thing if bulk = 5 leave; coat fold; thing press;");
        due("the next", y.thingOf(1, 9), 2);
        due("the last", y.thingOf(0, 9), 0);
        rules(y, "field leave; copper leave; linen fold;");
        due("linen is no field", y.thingOf(0, 9), 2);
    }

    private static void pressed() {
        says("press: WORTH what it PAYS; if that is more than 0, it is FLAT, BULK 0.");
        // SIGH 0: a coat swells by 2; WASH 0 has STEAM 2.
        Counted x = with(2, 24, 0, 0, 2, 24, 1, 0);
        allIrons(x, 8);
        due("PAYS 6, and 1 is FLAT", tell(x, 1), 7);
        due("it is FLAT", x.state(4), 1);
        due("BULK 0", x.thingOf(0, 1), 0);
        due("the other SWELLS", x.thingOf(1, 1), 26);
        Counted y = with(2, 24, 1, 0);
        allIrons(y, 8);
        due("NEEDS 9, PRESS is 8: PAYS 0", tell(y, 1), 0);
        due("it is not FLAT", y.state(4), 0);
        due("BULK is what it SWELLS more", y.thingOf(0, 1), 26);
        due("CREASE stays", y.thingOf(0, 2), 1);
    }

    private static void folded() {
        // Copper, for it doesn't swell. That SIGH counts for the WORTH alone is a reading, see NOTES.md.
        says("fold: CREASE is 1 more (9 at most), BULK 6 less (0 at least), WORTH 1, if SIGH is 0.");
        Counted x = with(1, 13, 7, 0);
        rules(x, "copper fold;");
        allIrons(x, 12);
        int[][] told = {{8, 7}, {9, 1}, {9, 0}, {9, 0}};
        for (int[] t : told) {
            due("WORTH", tell(x, 1), 1);
            due("CREASE", x.thingOf(0, 2), t[0]);
            due("BULK", x.thingOf(0, 1), t[1]);
        }
        int[][] bulks = {{5, 0}, {6, 0}, {7, 1}, {99, 93}};
        for (int[] b : bulks) {
            x.change(0, 1, b[0]);
            x.change(0, 2, 0);
            tell(x, 1);
            due("BULK " + b[0] + " less 6", x.thingOf(0, 1), b[1]);
            due("CREASE 0 and 1", x.thingOf(0, 2), 1);
        }
        Counted y = with(1, 99, 0, 0);
        rules(y, "copper fold;");
        y.ends(16);
        for (int v = 0; v < 16; v++) y.iron(v, v);
        for (int v = 0; v < 16; v++) due("WORTH at IRON " + v, tell(y, 1), v % 4 == 0 ? 1 : 0);
        due("16 folds: CREASE", y.thingOf(0, 2), 9);
        due("16 folds: BULK", y.thingOf(0, 1), 3);
        due("it is not FLAT", y.state(4), 0);

        says("leave: nothing.");
        Counted z = with(1, 50, 5, 0, 4, 6, 0, 0);
        allIrons(z, 0);
        rules(z, "thing leave;");
        due("copper", tell(z, 1), 0);
        due("linen that PAYS", tell(z, 2), 0);
        due("BULK", z.thingOf(0, 1), 50);
        due("CREASE", z.thingOf(0, 2), 5);
        due("none is FLAT", z.state(4), 0);
    }

    private static void undone() {
        says("(2) If SIGH is 3, of those that are FLAT the one of the greatest number is so no more, BULK 25.");
        Counted x = with(1, 40, 0, 0, 1, 41, 0, 0, 1, 42, 0, 0, 1, 43, 0, 0, 1, 44, 0, 0);
        allIrons(x, 3);
        for (int k : ints(0, 2, 3)) x.change(k, 4, 1);
        due("two are left", x.wash(), 2);
        due("the first and the third", x.state(4), 5);
        int[] bulk = {0, 41, 0, 25, 44};
        for (int k = 0; k < 5; k++) due("BULK of " + k, x.thingOf(k, 1), bulk[k]);
        due("one is left", x.wash(), 1);
        due("the first", x.state(4), 1);
        due("none is left", x.wash(), 0);
        due("none", x.state(4), 0);
        due("BULK", x.thingOf(0, 1), 25);
        x.change(0, 1, 77);
        due("none was FLAT", x.wash(), 0);
        due("so none is of BULK 25 now", x.thingOf(0, 1), 77);
        due("nor the last", x.thingOf(4, 1), 44);
        for (int sigh = 0; sigh < 3; sigh++) {
            Counted y = with(1, 40, 0, 0, 1, 40, 0, 0);
            y.iron(0, 12 + sigh);
            y.change(0, 4, 1);
            y.change(1, 4, 1);
            due("SIGH " + sigh + " undoes none", y.wash(), 2);
            due("both", y.state(4), 3);
        }
        Counted all = with(1, 0, 0, 0, 1, 0, 0, 0, 1, 0, 0, 0, 1, 0, 0, 0, 1, 0, 0, 0, 1, 0, 0, 0);
        for (int k = 0; k < 6; k++) all.change(k, 4, 1);
        all.iron(0, 3);
        due("all are FLAT: five are left", all.wash(), 5);
        due("all but the sixth", all.state(4), 31);
        undoneAndTold();
    }

    private static void undoneAndTold() {
        Counted x = with(4, 12, 0, 0, 4, 24, 0, 0);
        allIrons(x, 15);
        due("pressed and undone at once: PAYS 6", tell(x, 2), 6);
        due("none is FLAT", x.state(4), 0);
        due("BULK 25, and linen SWELLS by 0 in WASH 0", x.thingOf(1, 1), 25);
        x.change(1, 4, 1);
        due("the lesser is pressed, the greater undone: PAYS 5, and 1", tell(x, 1), 6);
        due("the lesser stays", x.state(4), 1);
        due("BULK 25 and 1, of WASH 1", x.thingOf(1, 1), 26);
        due("one that is FLAT is told: it isn't pressed again, but undone", tell(x, 1), 0);
        due("BULK 25 and 2, of WASH 2", x.thingOf(0, 1), 27);
        Counted coat = with(2, 0, 0, 0);
        coat.iron(0, 15);
        tell(coat, 1);
        due("BULK 25, and 8 that a coat SWELLS by then", coat.thingOf(0, 1), 33);
    }

    private static void flatOnesAreWorth() {
        says("(3) How many are FLAT then is WORTH so much more.");
        Counted x = with(1, 0, 0, 0, 1, 0, 0, 1, 1, 0, 0, 2, 1, 0, 0, 3, 1, 0, 0, 4, 1, 0, 0, 5);
        due("none", x.wash(), 0);
        for (int k = 0; k < 6; k++) {
            x.change(k, 4, 1);
            due(k + 1 + " are FLAT", x.wash(), k + 1);
        }
        due("all of them", x.state(4), 63);
        Counted none = new Counted();
        due("no THINGS", none.wash(), 0);
        due("WASH is 1 more", none.state(0), 1);
    }

    private static void bulkBehind() {
        says("(4) BULK of each that isn't FLAT is what it SWELLS more (99 at most), of each that is it is 0. WASH is 1 more.");
        int[][] told = {{0, 4}, {94, 98}, {95, 99}, {96, 99}, {99, 99}};
        for (int[] t : told) {
            Counted x = with(2, t[0], 9, 0);
            x.wash();
            due("a coat of BULK " + t[0] + " and 4", x.thingOf(0, 1), t[1]);
        }
        // CREASE 9: linen NEEDS 4 at least, so STEAM 0 presses none.
        Counted y = with(4, 30, 9, 0, 1, 99, 9, 0, 5, 30, 9, 0, 3, 30, 9, 0, 2, 30, 9, 1);
        y.board(1, 1, 6);
        allIrons(y, 2);
        y.change(1, 4, 1);
        int[][] bulk = {{30, 0, 32, 33, 34}, {31, 0, 35, 36, 38}, {33, 0, 39, 39, 42}, {33, 0, 41, 42, 46}};
        for (int w = 0; w < 4; w++) {
            due("WASH ahead", y.state(0), w);
            due("WORTH", y.wash(), 1);
            for (int k = 0; k < 5; k++) due("BULK of " + k + " behind WASH " + w, y.thingOf(k, 1), bulk[w][k]);
        }
        due("CREASE stays", y.thingOf(0, 2), 9);
        due("the KIND stays", y.thingOf(0, 0), 4);
        due("the BOARD stays", y.thingOf(4, 3), 1);
    }

    private static void washedOrOver() {
        says("A WASH goes by as in THE REST: what it was WORTH. STATE: it is OVER.");
        Counted x = with(1, 0, 0, 0, 4, 0, 0, 0, 4, 0, 0, 0);
        x.ends(3);
        due("the second is told: 4 and 1", x.wash(), 5);
        due("the third is told: 4 and 2", x.wash(), 6);
        due("none is told: 2", x.wash(), 2);
        due("the two are FLAT", x.state(4), 6);
        refused(STATE, x, v -> x.wash());
        due("SCORE", x.state(2), 13);
        x.ends(4);
        due("it is not OVER any more", x.wash(), 2);
        Counted last = new Counted();
        last.ends(16);
        for (int w = 0; w < 16; w++) due("WASH " + w + " of 16", last.wash(), 0);
        refused(STATE, last, v -> last.wash());
    }

    private static void changed() {
        says("FLAT (4: 0, 1; BULK stays) of a THING becomes v: what it was.");
        Counted x = with(2, 30, 3, 1, 2, 31, 4, 2);
        due("FLAT", x.change(1, 4, 1), 0);
        due("again", x.change(1, 4, 1), 1);
        due("BULK stays", x.thingOf(1, 1), 31);
        due("FLAT ones", x.state(4), 2);
        due("it is so", x.thingOf(1, 4), 1);
        due("the other isn't", x.thingOf(0, 4), 0);
        due("how many", x.many(2), 1);
        due("no more", x.change(1, 4, 0), 1);
        due("BULK stays", x.thingOf(1, 1), 31);
        due("FLAT ones", x.state(4), 0);
        refused(BAD, x, ints(-1, 2, LOW, HIGH), v -> x.change(1, 4, v));
        says("BULK (what 1), CREASE (2), BOARD (3)");
        int[] most = {0, 99, 9, 5};
        int[] was = {0, 30, 3, 1};
        for (int what = 1; what < 4; what++) {
            int w = what;
            due("the greatest", x.change(0, w, most[w]), was[w]);
            due("the least", x.change(0, w, 0), most[w]);
            due("as told", x.thingOf(0, w), 0);
            refused(BAD, x, ints(-1, most[w] + 1, LOW, HIGH), v -> x.change(0, w, v));
        }
        refused(BAD, x, ints(0, 5, -1, LOW, HIGH), v -> x.change(0, v, 0));
        refused(BAD, x, ints(-1, 2, LOW, HIGH), v -> x.change(v, 1, 0));
        due("the other stays", x.thingOf(1, 1), 31);
        says("A THING becomes one of another KIND (1 to 5): the KIND that it was.");
        for (int kind = 1; kind < 6; kind++) {
            due("to " + kind, x.remake(0, kind), kind == 1 ? 2 : kind - 1);
            due("is " + kind, x.thingOf(0, 0), kind);
        }
        due("the same again", x.remake(0, 5), 5);
        refused(BAD, x, ints(0, 6, -1, LOW, HIGH), v -> x.remake(0, v));
        refused(BAD, x, ints(-1, 2, LOW, HIGH), v -> x.remake(v, 1));
    }

    private static void anewAndState() {
        says("WASH is 0 again, SCORE 0, none is FLAT (BULK, CREASE stay): what WASH was.");
        Counted x = with(4, 20, 4, 0, 2, 30, 9, 1);
        x.ends(5);
        x.seed(17);
        x.iron(2, 6);
        due("at WASH 0", x.anew(), 0);
        for (int w = 0; w < 5; w++) x.wash();
        x.change(0, 1, 44);
        due("OVER at WASH 5", x.anew(), 5);
        due("WASH", x.state(0), 0);
        due("SCORE", x.state(2), 0);
        due("OVER", x.state(3), 0);
        due("FLAT ones", x.state(4), 0);
        due("BULK stays", x.thingOf(0, 1), 44);
        // WASHES 0 to 4 have SIGH 1, but WASH 2 SIGH 2: 4 times 4, and 6.
        due("BULK stays", x.thingOf(1, 1), 52);
        due("CREASE stays", x.thingOf(0, 2), 4);
        due("END stays", x.state(1), 5);
        due("z stays", x.seed(0), 17);
        due("IRONS stay", x.iron(2, 0), 6);
        due("again", x.anew(), 0);

        says("What = 0 WASH, 1 END, 2 SCORE, 3 1 if it is OVER, else 0, 4 THINGS that are FLAT, as a set, 5 the IRON of WASH, 6 BULK of all together. BAD.");
        Counted y = with(4, 99, 0, 0, 4, 99, 0, 0, 4, 99, 0, 0, 4, 99, 0, 0, 4, 99, 0, 0, 4, 99, 0, 0);
        due("BULK of all", y.state(6), 594);
        y.change(5, 4, 1);
        due("the sixth is FLAT", y.state(4), 32);
        due("BULK of all, FLAT ones too", y.state(6), 594);
        refused(BAD, y, ints(-1, 7, LOW, HIGH), y::state);
        due("no THINGS", new Counted().state(6), 0);
        due("no THINGS", new Counted().state(4), 0);
    }

    public static void main(String[] args) {
        washesAndEnd();
        endsBelowWash();
        ironsOfWashes();
        behindWash15();
        boards();
        score();
        things();
        noSuchThing();
        kinds();
        swellsOfKinds();
        swellsByWash();
        ropes();
        needs();
        press();
        pays();
        mayBePressed();
        toldOrNot();
        pressed();
        folded();
        undone();
        flatOnesAreWorth();
        bulkBehind();
        washedOrOver();
        changed();
        anewAndState();
        done("LaundryTest");
    }
}
