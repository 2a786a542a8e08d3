import java.util.function.IntUnaryOperator;

/** The promises 1 to 52, one by one: what is told, the edges, and what is refused. Answers are worked out by hand. */
public final class PromisesTest extends Told {
    private static void due(int promise, String what, int got, int want) {
        heads("promise " + promise);
        due(what, got, want);
    }

    private static void refused(int promise, int want, Counted x, int[] args, IntUnaryOperator call) {
        heads("promise " + promise);
        refused(want, x, args, call);
    }

    private static void newObject() {
        Counted x = new Counted();
        for (int i = 0; i < 7; i++) due(1, "many(" + i + ")", x.many(i), 0);
        due(1, "WASH", x.state(0), 0);
        due(1, "END", x.state(1), 12);
        due(1, "SCORE", x.state(2), 0);
        due(1, "OVER", x.state(3), 0);
        due(1, "IRON", x.state(5), 9);
        for (int f = 0; f < 6; f++) due(1, "WEIGHT and ROPE of " + f, x.boardOf(f, 0) + x.boardOf(f, 1), 0);
        due(1, "nothing is kept", x.again(), NONE);
        due(1, "z", x.seed(0), 1);
        due(1, "SHEETS are missing", x.write(3, 0, 0), -11);
        due(1, "SHELVES hold nothing", x.taken(3, 0), -11);
        due(1, "no ROWS", x.judge(), 0);
        for (int w = 0; w < 16; w++) due(1, "IRON of " + w, x.iron(w, 3), 9);
    }

    private static void things() {
        Counted x = new Counted();
        refused(2, BAD, x, new int[] {0, 6, LOW, HIGH}, v -> x.thing(v, 0, 0, 0));
        refused(2, BAD, x, new int[] {-1, 100, LOW, HIGH}, v -> x.thing(1, v, 0, 0));
        refused(2, BAD, x, new int[] {-1, 10, LOW, HIGH}, v -> x.thing(1, 0, v, 0));
        refused(2, BAD, x, new int[] {-1, 6, LOW, HIGH}, v -> x.thing(1, 0, 0, v));
        due(2, "a first", x.thing(5, 99, 9, 5), 0);
        for (int k = 1; k < 6; k++) due(2, "one more", x.thing(k, 0, 0, 0), k);
        due(2, "a seventh", x.thing(1, 0, 0, 0), FULL);
        due(2, "a seventh, but a bad one", x.thing(6, 0, 0, 0), BAD);
        due(2, "how many", x.many(0), 6);
        due(2, "not FLAT at first", x.state(4), 0);
    }

    private static void thingsTold() {
        // Boards: 0 plain; 1 with WEIGHT 7, ROPE 8 (2 are taken of what swells). IRON 9: STEAM 2, SIGH 1.
        Counted x = with(1, 50, 4, 1, 2, 37, 3, 1, 3, 37, 3, 1, 4, 40, 5, 0, 5, 40, 5, 0);
        x.board(1, 0, 7);
        x.board(1, 1, 8);
        int[][] told = {
            // KIND, BULK, CREASE, BOARD, FLAT, SWELLS, NEEDS, PAYS, MAY, WILL
            {1, 50, 4, 1, 0, 0, 30, 0, 0, 0},
            {2, 37, 3, 1, 0, 2, 13, 7, 1, 0},
            {3, 37, 3, 1, 0, 0, 7, 7, 1, 0},
            {4, 40, 5, 0, 0, 0, 5, 7, 1, 0},
            {5, 40, 5, 0, 0, 4, 7, 7, 1, 0},
        };
        for (int k = 0; k < told.length; k++) for (int w = 0; w < 10; w++) due(3, "thingOf(" + k + ", " + w + ")", x.thingOf(k, w), told[k][w]);
        refused(3, BAD, x, new int[] {-1, 5, LOW, HIGH}, v -> x.thingOf(v, 0));
        refused(3, BAD, x, new int[] {-1, 10, LOW, HIGH}, v -> x.thingOf(0, v));

        x.iron(0, 3);
        due(3, "coat swells at SIGH 3", x.thingOf(1, 5), 6);
        due(3, "hat swells at SIGH 3", x.thingOf(2, 5), 3);
        due(3, "coat pays at STEAM 0", x.thingOf(1, 7), 0);
        due(3, "hat pays at STEAM 0, PRESS as much as it NEEDS", x.thingOf(2, 7), 7);
        due(3, "linen may not be pressed at STEAM 0", x.thingOf(3, 8), 0);
        x.change(2, 4, 1);
        due(3, "FLAT", x.thingOf(2, 4), 1);
        due(3, "FLAT ones still swell when asked", x.thingOf(2, 5), 3);
        due(3, "FLAT ones pay nothing", x.thingOf(2, 7), 0);
        due(3, "FLAT ones may not be pressed", x.thingOf(2, 8), 0);
        x.iron(0, 4);
        due(3, "a FLAT one presses with 2: 4 + 7 + 2 reaches 13", x.thingOf(1, 7), 7);
        x.board(1, 0, 6);
        due(3, "12 doesn't", x.thingOf(1, 7), 0);

        Counted c = with(1, 0, 0, 0, 4, 0, 0, 0, 4, 0, 0, 0, 4, 0, 0, 0, 4, 0, 0, 0, 4, 0, 0, 0);
        c.board(0, 0, 8);
        c.iron(0, 12);
        for (int k = 1; k < 6; k++) c.change(k, 4, 1);
        due(3, "copper by 12 + 8 + 10", c.thingOf(0, 7), 4);
        c.board(0, 0, 7);
        due(3, "copper by 29", c.thingOf(0, 7), 0);

        Counted w = with(4, 0, 0, 0, 5, 0, 0, 0);
        int[] linen = {0, 1, 2, 0, 1};
        for (int i = 0; i < 5; i++) {
            due(3, "linen swells by WASH " + i, w.thingOf(0, 5), linen[i]);
            due(3, "field swells by WASH " + i, w.thingOf(1, 5), linen[i] + 1);
            w.wash();
        }
        Counted h = with(3, 0, 0, 0);
        h.iron(0, 0);
        due(3, "hat swells by 0 at SIGH 0", h.thingOf(0, 5), 0);
        h.remake(0, 2);
        due(3, "coat swells by 2 at SIGH 0", h.thingOf(0, 5), 2);
        int[] byRope = {2, 2, 2, 1, 1, 1, 0, 0, 0, 0};
        for (int rope = 0; rope < 10; rope++) {
            h.board(0, 1, rope);
            due(3, "less a third of the ROPE, not below 0", h.thingOf(0, 5), byRope[rope]);
        }
    }

    private static void changes() {
        Counted x = with(2, 30, 3, 1);
        due(4, "BULK", x.change(0, 1, 99), 30);
        due(4, "CREASE", x.change(0, 2, 9), 3);
        due(4, "BOARD", x.change(0, 3, 5), 1);
        due(4, "FLAT", x.change(0, 4, 1), 0);
        due(4, "BULK stays", x.thingOf(0, 1), 99);
        due(4, "FLAT is so", x.state(4), 1);
        due(4, "FLAT no more", x.change(0, 4, 0), 1);
        due(4, "BULK stays", x.change(0, 1, 0), 99);
        due(4, "CREASE is as told", x.change(0, 2, 0), 9);
        due(4, "BOARD is as told", x.change(0, 3, 0), 5);
        refused(4, BAD, x, new int[] {-1, 1, LOW, HIGH}, v -> x.change(v, 1, 0));
        refused(4, BAD, x, new int[] {-1, 0, 5, LOW, HIGH}, v -> x.change(0, v, 0));
        refused(4, BAD, x, new int[] {-1, 100, LOW, HIGH}, v -> x.change(0, 1, v));
        refused(4, BAD, x, new int[] {-1, 10, LOW, HIGH}, v -> x.change(0, 2, v));
        refused(4, BAD, x, new int[] {-1, 6, LOW, HIGH}, v -> x.change(0, 3, v));
        refused(4, BAD, x, new int[] {-1, 2, LOW, HIGH}, v -> x.change(0, 4, v));

        due(5, "what it was", x.remake(0, 5), 2);
        due(5, "what it is", x.remake(0, 5), 5);
        refused(5, BAD, x, new int[] {-1, 1, LOW, HIGH}, v -> x.remake(v, 1));
        refused(5, BAD, x, new int[] {-1, 0, 6, LOW, HIGH}, v -> x.remake(0, v));
    }

    private static void ironsAndBoards() {
        Counted x = new Counted();
        due(6, "IRON of 15", x.iron(15, 15), 9);
        due(6, "again", x.iron(15, 0), 15);
        due(6, "IRON of 0", x.iron(0, 7), 9);
        due(6, "is that of WASH", x.state(5), 7);
        refused(6, BAD, x, new int[] {-1, 16, LOW, HIGH}, v -> x.iron(v, 1));
        refused(6, BAD, x, new int[] {-1, 16, LOW, HIGH}, v -> x.iron(0, v));

        due(7, "WEIGHT", x.board(5, 0, 9), 0);
        due(7, "ROPE", x.board(5, 1, 8), 0);
        due(7, "WEIGHT was", x.board(5, 0, 1), 9);
        due(7, "ROPE was", x.board(5, 1, 2), 8);
        refused(7, BAD, x, new int[] {-1, 6, LOW, HIGH}, v -> x.board(v, 0, 1));
        refused(7, BAD, x, new int[] {-1, 2, LOW, HIGH}, v -> x.board(0, v, 1));
        refused(7, BAD, x, new int[] {-1, 10, LOW, HIGH}, v -> x.board(0, 0, v));
        refused(7, BAD, x, new int[] {-1, 10, LOW, HIGH}, v -> x.board(0, 1, v));

        due(8, "WEIGHT", x.boardOf(5, 0), 1);
        due(8, "ROPE", x.boardOf(5, 1), 2);
        refused(8, BAD, x, new int[] {-1, 6, LOW, HIGH}, v -> x.boardOf(v, 0));
        refused(8, BAD, x, new int[] {-1, 2, LOW, HIGH}, v -> x.boardOf(0, v));
    }

    private static void endsAndState() {
        Counted x = with(2, 20, 0, 0, 4, 10, 0, 1);
        due(9, "what it was", x.ends(16), 12);
        refused(9, BAD, x, new int[] {-1, 0, 17, LOW, HIGH}, x::ends);
        for (int i = 0; i < 3; i++) x.wash();
        refused(9, STATE, x, new int[] {1, 2}, x::ends);
        due(9, "as low as WASH", x.ends(3), 16);
        due(9, "then it is OVER", x.state(3), 1);
        due(9, "and back", x.ends(4), 3);
        due(9, "not OVER", x.state(3), 0);

        // A coat of BULK 20 NEEDS 7, linen of BULK 10 NEEDS 0: both are pressed at once, worth 5 + 1, 4 + 2, then 2.
        due(11, "WASH", x.state(0), 3);
        due(11, "SCORE", x.state(2), 14);
        due(11, "FLAT ones", x.state(4), 3);
        due(11, "BULK of all", x.state(6), 0);
        refused(11, BAD, x, new int[] {-1, 7, LOW, HIGH}, x::state);

        x.change(1, 1, 33);
        x.change(1, 2, 5);
        due(10, "what WASH was", x.anew(), 3);
        due(10, "WASH", x.state(0), 0);
        due(10, "SCORE", x.state(2), 0);
        due(10, "none is FLAT", x.state(4), 0);
        due(10, "BULK stays", x.thingOf(1, 1), 33);
        due(10, "CREASE stays", x.thingOf(1, 2), 5);
        due(10, "END stays", x.state(1), 4);
        due(11, "BULK of all", x.state(6), 33);

        Counted y = new Counted();
        y.ends(16);
        for (int i = 0; i < 16; i++) y.wash();
        due(11, "WASH is 16", y.state(0), 16);
        due(11, "behind WASH 15 the IRON is 0", y.state(5), 0);
        y.thing(4, 0, 0, 0);
        due(3, "STEAM is 0 there: linen of NEED 0 pays", y.thingOf(0, 7), 4);
    }

    private static void tape() {
        Counted x = new Counted();
        due(12, "one byte", x.feed(0x0101010101010120L, 1), 1);
        due(12, "eight", x.feed(0x2020202020202020L, 8), 9);
        refused(12, BAD, x, new int[] {-1, 0, 9, LOW, HIGH}, v -> x.feed(0, v));
        for (int i = 0; i < 23; i++) x.feed(0x2020202020202020L, 8);
        due(12, "how many there are", x.many(5), 193);
        refused(12, FULL, x, new int[] {8}, v -> x.feed(0x2020202020202020L, v));
        due(12, "BAD goes ahead of FULL", x.feed(0, 9), BAD);
        due(12, "200 are not too many", x.feed(0x2020202020202020L, 7), 200);
        due(12, "201 are", x.feed(32, 1), FULL);
        due(13, "blanks alone are no RULES", x.rules(), 0);
        due(13, "THE TAPE is used up", x.many(5), 0);
        due(12, "the lowest comes first", rules(x, "hat fold;"), 1);
    }

    private static void faults() {
        String[] texts = {
            "", "thing leave;", " thing  leave ; ", "thing leave", "thing leave ", "thing", "thing ", "thin leave;", "things leave;",
            "thingleave;", "thing if leave;", "thing if 1 leave;", "thing if 1 < leave;", "thing if 1<2 leave;", "thing if 1<2leave;",
            "thing if 1<2 and leave;", "thing if 1<2 and not not 3>wash or 4=4 fold;", "thing if (1<2 leave;", "thing if 1<2) leave;",
            "thing if (((1=1))) leave;", "thing if ((((1=1)))) leave;", "thing if (1=1)and(((1=2))) leave;", "thing if 12345=1 leave;",
            "thing if 9999=00001 leave;", "thing if 0000=0001 leave;", "thing if not leave;", "thing if bulk=bulk press leave;",
            "thing press;coat leave;hat fold;linen press;field press;copper press;thing press;thing press;",
            "thing press;coat leave;hat fold;linen press;field press;copper press;thing press;thing press; thing",
            "thing press;coat leave;hat fold;linen press;field press;copper press;thing press;thing press; ;",
            "thingz leave;", "Thing leave;", "thing leave; \n", "thing iron;", "thing if 1<>2 leave;", "thing if 1<2 < 3 leave;", "thing if () leave;",
            "thing if and leave;", "wash leave;", "if 1=1 leave;", "thing if thing=1 leave;", "thing if 1=1 leave", "thing if 1=1 or", ";",
            "thing if wash<3 leave; hat if (bulk>9 and crease=1) or steam<2 and not number=0 fold;", "thing leave;" + (char) 0, "thing" + (char) 225 + "leave;",
        };
        int[] answers = {
            0, 1, 1, -111, -112, -105, -106, -100, -100,
            -100, -109, -111, -113, 1, 1,
            -117, 1, -114, -112,
            1, -112, 1, -109,
            -114, 1, -113, -125,
            8,
            -194,
            -194,
            -100, -100, -113, -106, -111, -113, -110,
            -109, -100, -100, -109, -118, -115, -100,
            2, -112, -105,
        };
        due(13, "texts and answers", texts.length, answers.length);
        for (int i = 0; i < texts.length; i++) {
            Counted x = new Counted();
            rules(x, "thing fold;thing fold;thing fold;");
            due(13, "'" + texts[i] + "'", rules(x, texts[i]), answers[i]);
            due(13, "RULES behind '" + texts[i] + "'", x.many(1), answers[i] < 0 ? 3 : answers[i]);
            due(13, "THE TAPE behind '" + texts[i] + "'", x.many(5), 0);
        }
    }

    private static void wills() {
        Counted x = with(1, 30, 3, 0, 2, 40, 2, 1, 3, 41, 2, 1, 4, 42, 2, 0, 5, 43, 9, 0);
        Object[][] told = {
            // a text, and each one's WILL as a digit
            {"thing leave;", "11111"},
            {"coat fold;", "02200"},
            {"hat fold; coat leave;", "01200"},
            {"coat leave; hat fold;", "01100"},
            {"linen fold; thing leave;", "11122"},
            {"field fold;", "00002"},
            {"thing if bulk > 41 leave;", "00011"},
            {"thing if bulk < 41 leave; thing fold;", "11222"},
            {"thing if crease = 2 fold;", "02220"},
            {"thing if number = 3 fold;", "00020"},
            {"thing if steam = 2 and wash = 0 leave;", "11111"},
            {"thing if steam = 1 or wash = 1 leave;", "00000"},
            {"thing if number = 0 or number = 1 and bulk = 0 leave;", "10000"},
            {"thing if (number = 0 or number = 1) and bulk = 40 leave;", "01000"},
            {"thing if not number = 0 and not not number < 3 leave;", "01100"},
            {"thing if not (number = 0 or number > 2) leave;", "01100"},
            {"thing if not (not (number = 0) and not (number = 1)) leave;", "11000"},
            {"thing if 3 > number leave; thing if 0004 = number fold;", "11102"},
            {"", "00000"},
        };
        for (Object[] t : told) {
            rules(x, (String) t[0]);
            for (int k = 0; k < 5; k++) due(13, "WILL of " + k + " by '" + t[0] + "'", x.thingOf(k, 9), ((String) t[1]).charAt(k) - '0');
        }
        // As many comparisons as THE TAPE takes, the last of which tells.
        String many = "thing if 0=1" + "or 0=1".repeat(29) + "or 1=1leave;";
        due(13, "198 bytes", many.length(), 198);
        due(13, "31 comparisons", rules(x, many), 1);
        due(13, "the last one tells", x.thingOf(0, 9), 1);
        rules(x, "linen leave;");
        due(3, "PAYS is not by WILL", x.thingOf(3, 7), 7);
        due(3, "MAY is", x.thingOf(3, 8), 0);
    }

    private static void washes() {
        // Two coats on board 0 (WEIGHT 0), STEAM 2: NEEDS 2 + 4 and 4 + 1 + 4.
        Counted x = with(2, 12, 0, 0, 2, 24, 1, 0);
        due(14, "the least is pressed, 5 and 1 FLAT", x.wash(), 6);
        due(14, "the other swells by 4", x.thingOf(1, 1), 28);
        due(14, "BULK of the FLAT one", x.thingOf(0, 1), 0);
        due(14, "4 + 2, and 2 FLAT", x.wash(), 8);
        due(14, "none is told, 2 FLAT", x.wash(), 2);
        due(14, "SCORE", x.state(2), 16);
        x.iron(3, 3);
        due(14, "a SIGH of 3 undoes the last", x.wash(), 1);
        due(14, "the greatest number it is", x.state(4), 1);
        due(14, "BULK 25, and it swells by 8", x.thingOf(1, 1), 33);
        x.iron(4, 11);
        due(14, "what is pressed is WORTH, though undone at once", x.wash(), 7);
        due(14, "BULK 25 and 8", x.thingOf(1, 1), 33);
        x.change(0, 1, 50);
        x.change(1, 1, 98);
        x.iron(5, 0);
        due(14, "nothing PAYS by STEAM 0", x.wash(), 1);
        due(14, "BULK of FLAT ones is 0 behind a WASH", x.thingOf(0, 1), 0);
        due(14, "BULK is 99 at most", x.thingOf(1, 1), 99);
        x.ends(6);
        refused(14, STATE, x, new int[] {0, 0}, v -> x.wash());

        Counted y = with(2, 12, 0, 0, 2, 24, 1, 0);
        due(15, "none", y.on(0), 0);
        due(15, "one", y.on(1), 6);
        due(15, "two", y.on(2), 14);
        due(15, "all", y.on(16), 34);
        y.ends(2);
        due(15, "fewer", y.on(16), 14);
        due(15, "nothing is changed", y.state(0) + y.state(2) + y.state(4), 0);
        refused(15, BAD, y, new int[] {-1, 17, LOW, HIGH}, y::on);
        y.wash();
        y.wash();
        due(15, "OVER", y.on(16), 0);

        Counted z = with(2, 12, 0, 0, 2, 24, 1, 0, 1, 0, 0, 1);
        due(16, "at once", z.when(0), 0);
        due(16, "then", z.when(1), 1);
        due(16, "never", z.when(2), NONE);
        refused(16, BAD, z, new int[] {-1, 3, LOW, HIGH}, z::when);
        z.iron(1, 11);
        due(16, "undone in the same WASH is not FLAT behind it", z.when(1), 2);
        z.wash();
        due(16, "it is FLAT now", z.when(0), NONE);
        due(16, "told as a WASH", z.when(1), 2);
    }

    private static void folds() {
        Counted x = with(2, 8, 8, 0);
        rules(x, "thing fold;");
        due(14, "THE REST tells none that folds", x.on(16), 0);
        due(14, "nor does a WASH", x.wash(), 0);
        due(14, "so its CREASE stays", x.thingOf(0, 2), 8);
        x.anew();
        x.change(0, 1, 8);
        x.change(0, 2, 7);
        x.sheet(0, 0, 3);
        x.write(0, 0, 1);
        x.write(0, 1, 1);
        x.write(0, 2, 1);
        x.iron(0, 8);
        due(44, "a fold is WORTH 1 at SIGH 0", x.goAll(0, 0, 1), 1);
        due(44, "CREASE is 1 more", x.thingOf(0, 2), 8);
        due(44, "BULK 6 less, and 2 for the SIGH", x.thingOf(0, 1), 4);
        x.change(0, 2, 9);
        due(44, "a fold is WORTH 0 at SIGH 1", x.goAll(0, 0, 1), 0);
        due(44, "CREASE is 9 at most", x.thingOf(0, 2), 9);
        due(44, "BULK is 0 at least, and 4 for the SIGH", x.thingOf(0, 1), 4);
        rules(x, "thing leave;");
        x.change(0, 2, 0);
        due(44, "one that is left is WORTH 0", x.goAll(0, 0, 1), 0);
        due(44, "and not pressed", x.thingOf(0, 4), 0);
        due(44, "but swells", x.thingOf(0, 1), 8);
        rules(x, "");
        due(44, "it is pressed", x.goAll(0, 0, 1), 5);
        rules(x, "thing fold;");
        due(44, "one that is FLAT doesn't fold", x.goAll(0, 0, 1), 1);
        due(44, "so its CREASE stays", x.thingOf(0, 2), 0);
    }

    private static void bestCreaseAndBoard() {
        // A coat of BULK 12 by STEAM 2 in WASH 0 alone: it NEEDS 6 and CREASE, PRESS is 8 there.
        Counted x = with(2, 12, 9, 0);
        for (int w = 1; w < 12; w++) x.iron(w, 1);
        due(17, "0 to 2 are the same, the least", x.creaseFor(0), 0);
        due(17, "nothing is changed", x.thingOf(0, 2), 9);
        x.board(0, 0, 9);
        due(17, "all do", x.creaseFor(0), 0);
        refused(17, BAD, x, new int[] {-1, 1, LOW, HIGH}, x::creaseFor);
        // Ahead of WASH 4 it swells to 28, and to 36 ahead of WASH 6: pressed then it PAYS 7, at once 5.
        Counted y = with(2, 12, 0, 0);
        y.ends(7);
        for (int w = 0; w < 7; w++) y.iron(w, 1);
        y.iron(0, 9);
        y.iron(6, 13);
        due(15, "at once: 5, and 7 WASHES", y.on(16), 12);
        due(17, "CREASE 0 is WORTH most", y.creaseFor(0), 0);
        y.iron(0, 1);
        due(15, "in the end: 7 and 1", y.on(16), 8);
        y.ends(1);
        y.iron(0, 9);
        due(17, "still the least", y.creaseFor(0), 0);
        creaseKeepsTillWorthMore();

        Counted b = with(2, 40, 9, 0);
        due(18, "no board does: the least", b.boardFor(0), 0);
        b.board(3, 0, 9);
        b.board(5, 0, 9);
        due(18, "on board 3 PRESS is 17, NEED 19", b.boardFor(0), 0);
        b.change(0, 2, 7);
        due(18, "of 3 and 5 the least", b.boardFor(0), 3);
        b.board(3, 0, 8);
        due(18, "on 5 alone", b.boardFor(0), 5);
        due(18, "nothing is changed", b.thingOf(0, 3), 0);
        refused(18, BAD, b, new int[] {-1, 1, LOW, HIGH}, b::boardFor);
    }

    /** More CREASE may be better: pressed too early it is undone, and so is another. */
    private static void creaseKeepsTillWorthMore() {
        // WASH 0: STEAM 2; WASH 1: STEAM 3; END 2. A coat that swells by 8 in WASH 0 (SIGH 3).
        Counted x = with(2, 40, 0, 0);
        x.ends(2);
        x.iron(0, 11);
        x.iron(1, 14);
        // CREASE 0: NEEDS 10, PRESS 8: not pressed. WASH 1: BULK 48, NEEDS 12, PRESS 12: 8 and 1.
        due(15, "in WASH 1", x.on(16), 9);
        x.change(0, 1, 12);
        // CREASE 0: pressed in WASH 0 for 5, undone, BULK 33; WASH 1 NEEDS 9: 6 and 1. Together 12.
        due(15, "twice", x.on(16), 12);
        due(17, "CREASE 0 to 2 let it be pressed twice", x.creaseFor(0), 0);
        // A field: CREASE 0 is pressed at once for 4 + 24 / 12; with a later one it has swollen (its number is 5).
        Counted y = with(1, 0, 0, 1, 1, 0, 0, 1, 1, 0, 0, 1, 1, 0, 0, 1, 1, 0, 0, 1, 5, 91, 0, 0);
        y.ends(2);
        y.iron(0, 5);
        y.iron(1, 9);
        rules(y, "field if crease < 1 leave; field if wash < 1 and crease < 3 leave;");
        // CREASE 0 leaves always, 1 and 2 in WASH 0; 1 NEEDS (15 + 1) / 2 and 0 at STEAM 1 else: PRESS 4.
        // WASH 1: BULK 96: (16 + 1) / 2 = 8 is PRESS: 4 + 8, and 1 FLAT.
        due(17, "CREASE 1 is the least that is pressed", y.creaseFor(5), 1);
        rules(y, "field if crease < 9 leave;");
        y.iron(1, 15);
        y.change(5, 1, 6);
        // CREASE 9 NEEDS (1 + 9) / 2 + 4, in WASH 1 (BULK 11) the same: PRESS 12.
        due(17, "CREASE 9 alone is pressed", y.creaseFor(5), 9);
    }

    private static void fatLeastLeft() {
        Counted x = with(2, 50, 9, 0, 1, 60, 0, 1, 1, 59, 0, 1);
        due(19, "50, 54, 58, 62", x.fat(0), 3);
        due(19, "60 now", x.fat(1), 0);
        due(19, "never", x.fat(2), NONE);
        refused(19, BAD, x, new int[] {-1, 3, LOW, HIGH}, x::fat);
        x.ends(3);
        due(19, "behind the last WASH, too", x.fat(0), 3);
        x.ends(2);
        due(19, "not if it is OVER ahead of that", x.fat(0), NONE);
        x.ends(12);
        x.wash();
        due(19, "told as a WASH", x.fat(0), 3);
        due(19, "WASH itself", x.fat(1), 1);
        x.change(0, 2, 0);
        x.board(0, 0, 1);
        x.iron(1, 13);
        due(19, "pressed ahead of that", x.fat(0), NONE);

        // A coat of BULK 36, CREASE 1 NEEDS 11; board 1 has WEIGHT 3.
        Counted y = with(2, 36, 1, 0, 2, 36, 1, 1, 1, 0, 0, 1, 4, 0, 0, 2);
        y.board(1, 0, 3);
        due(20, "PRESS 12", y.least(0), 3);
        due(20, "PRESS 11", y.least(1), 2);
        due(20, "copper", y.least(2), NONE);
        due(20, "linen", y.least(3), 0);
        rules(y, "thing leave;");
        due(20, "WILL doesn't count", y.least(1), 2);
        y.change(1, 4, 1);
        due(20, "it is FLAT", y.least(1), NONE);
        refused(20, BAD, y, new int[] {-1, 4, LOW, HIGH}, y::least);

        Counted z = with(2, 12, 0, 0, 2, 24, 1, 0, 1, 7, 0, 1);
        int[] bulk = {43, 35, 7, 7};
        int[] flat = {0, 1, 3, 3};
        for (int n = 0; n < 4; n++) {
            due(21, "BULK left by " + n, z.left(n, 0), bulk[n]);
            due(21, "FLAT by " + n, z.left(n, 1), flat[n]);
        }
        z.ends(1);
        due(21, "fewer", z.left(16, 1), 1);
        refused(21, BAD, z, new int[] {-1, 17, LOW, HIGH}, v -> z.left(v, 0));
        refused(21, BAD, z, new int[] {-1, 2, LOW, HIGH}, v -> z.left(0, v));
    }

    private static void piles() {
        Counted none = new Counted();
        due(22, "none", none.piles(-1), 0);
        // 0 and 3 by board 2, 3 and 1 by CREASE 7, 4 alone, 2 and 5 by CREASE 1.
        Counted x = with(1, 0, 4, 2, 1, 0, 7, 0, 1, 0, 1, 1, 1, 0, 7, 2, 1, 0, 9, 5, 1, 0, 1, 3);
        int[] piles = {11, 11, 36, 11, 16, 36};
        due(22, "how many", x.piles(-1), 3);
        for (int k = 0; k < 6; k++) due(22, "of " + k, x.piles(k), piles[k]);
        x.change(3, 4, 1);
        due(22, "0 and 1 are parted", x.piles(-1), 4);
        due(22, "0", x.piles(0), 1);
        due(22, "3 is FLAT", x.piles(3), 0);
        refused(22, BAD, x, new int[] {-2, 6, LOW, HIGH}, x::piles);
        Counted two = with(1, 0, 0, 0, 1, 0, 0, 0);
        refused(22, BAD, two, new int[] {2, 5}, two::piles);
    }

    private static void plans() {
        // As in washes(): 6 for the first, 8 (or, the second first, 7 and then 7) for both, then 2 each.
        Counted x = with(2, 12, 0, 0, 2, 24, 0, 0, 1, 0, 0, 1);
        // 0: NEEDS 6, PAYS 5. 1: NEEDS 8, PAYS 6. Left a WASH: 0 has 16 (NEEDS 6, PAYS 5), 1 has 28 (NEEDS 8, PAYS 6); with one FLAT PRESS is 10.
        due(23, "of none", x.best(0), 0);
        due(23, "of one", x.best(1), 7);
        due(23, "of two", x.best(2), 14);
        due(23, "of four", x.best(4), 18);
        due(24, "the second", x.ith(1, 0), 2);
        due(24, "1 and then 2: 6 + 8", x.ith(2, 0), 1);
        due(24, "then", x.ith(2, 1), 2);
        due(24, "of three: none is told", x.ith(3, 2), 0);
        due(24, "of four: none is told", x.ith(4, 3), 0);
        due(24, "not so many", x.ith(2, 2), NONE);
        due(24, "not so many", x.ith(0, 0), NONE);
        refused(24, BAD, x, new int[] {-1, 5, LOW, HIGH}, v -> x.ith(v, 0));
        refused(24, BAD, x, new int[] {-1, 4, LOW, HIGH}, v -> x.ith(4, v));
        refused(23, BAD, x, new int[] {-1, 5, LOW, HIGH}, x::best);
        due(25, "of none", x.ways(0), 1);
        due(25, "of one", x.ways(1), 1);
        due(25, "of two: either is first", x.ways(2), 2);
        due(25, "of three: any ACT then", x.ways(3), 8);
        due(25, "of four", x.ways(4), 32);
        refused(25, BAD, x, new int[] {-1, 5, LOW, HIGH}, x::ways);

        due(26, "none of them", x.note(0, 0), 0);
        due(26, "none of them", x.note(4, 0), 0);
        due(26, "one", x.note(1, 1), 1);
        due(26, "one of many WASHES", x.note(4, 2), 1);
        due(26, "two in one WASH", x.note(1, 3), NONE);
        due(26, "two", x.note(2, 3), 2);
        due(26, "copper", x.note(4, 4), NONE);
        refused(26, BAD, x, new int[] {-1, 5, LOW, HIGH}, v -> x.note(v, 1));
        refused(26, BAD, x, new int[] {-1, 8, LOW, HIGH}, v -> x.note(2, v));
        due(27, "copper", x.bars(4, 7), 2);
        due(27, "each by itself", x.bars(1, 3), NONE);
        due(27, "none", x.bars(4, 0), NONE);
        due(27, "of no WASH: the least", x.bars(0, 6), 1);
        due(27, "of no WASH: the least", x.bars(0, 7), 0);
        refused(27, BAD, x, new int[] {-1, 5, LOW, HIGH}, v -> x.bars(v, 1));
        refused(27, BAD, x, new int[] {-1, 8, LOW, HIGH}, v -> x.bars(2, v));

        x.iron(1, 11);
        due(26, "it must be pressed again, or late: behind two the last is undone", x.note(2, 2), NONE);
        // Behind that it has 33 or 36, and is pressed only if the other one is FLAT, which then must not be the last.
        due(26, "behind three", x.note(3, 2), 3);
        x.change(0, 4, 1);
        due(26, "FLAT already", x.note(0, 1), 0);
        x.ends(1);
        due(26, "fewer", x.note(4, 3), 1);
        due(23, "fewer", x.best(4), 8);
        due(24, "fewer", x.ith(4, 1), NONE);
        x.wash();
        due(23, "OVER", x.best(4), 0);
        due(25, "OVER", x.ways(4), 1);
        due(24, "OVER", x.ith(4, 0), NONE);
        due(27, "OVER", x.bars(4, 7), 2);
    }

    private static void games() {
        Counted x = with(2, 12, 0, 0, 2, 24, 0, 0, 1, 0, 0, 1);
        due(28, "of one", x.game(1), 7);
        due(29, "of one", x.play(1), 2);
        // The other one tells none that helps: 7 and 1; of 0 and then one it would be less.
        due(28, "of two", x.game(2), 8);
        due(29, "of two", x.play(2), 2);
        // Of three the first one ends: 6 + 1 + 8 or 7 + 1 + 7.
        due(28, "of three", x.game(3), 15);
        due(29, "of three: the least of 1, 2", x.play(3), 1);
        refused(28, BAD, x, new int[] {-1, 0, 5, LOW, HIGH}, x::game);
        refused(29, BAD, x, new int[] {-1, 0, 5, LOW, HIGH}, x::play);
        x.ends(2);
        due(28, "till it is OVER", x.game(4), 8);
        x.wash();
        x.wash();
        due(28, "OVER", x.game(1), 0);
        due(29, "OVER", x.play(1), NONE);
        due(29, "BAD goes ahead", x.play(0), BAD);
        // The other one folds or leaves where it hurts: one who folds at SIGH 0 is WORTH 1, so it tells none.
        Counted y = with(2, 0, 0, 0);
        due(29, "played without the VALUE being asked", y.play(4), 1);
        rules(y, "thing fold;");
        for (int w = 0; w < 12; w++) y.iron(w, 0);
        due(28, "1, 0, 1, 0", y.game(4), 2);
        due(29, "it folds", y.play(4), 1);
    }

    private static void strangers() {
        Counted x = new Counted();
        due(32, "all", x.lone(0), 500);
        due(32, "the least KIND", x.lone(1), 1);
        due(32, "the least CREASE", x.lone(2), 0);
        due(32, "the least BULK", x.lone(3), 0);
        refused(32, BAD, x, new int[] {-1, 4, LOW, HIGH}, x::lone);
        due(33, "some FIT", x.liar(), NONE);
        refused(30, BAD, x, new int[] {-1, 16, LOW, HIGH}, v -> x.report(v, 0, 0, 99));
        refused(30, BAD, x, new int[] {-1, 2, LOW, HIGH}, v -> x.report(0, v, 0, 9));
        refused(30, BAD, x, new int[] {-1, 100, LOW, HIGH}, v -> x.report(0, 0, v, 99));
        refused(30, BAD, x, new int[] {-1, 100, LOW, HIGH, 49}, v -> x.report(0, 0, 50, v));
        refused(30, BAD, x, new int[] {-1, 17, LOW, HIGH, 4}, v -> x.report(0, 1, 5, v));
        due(30, "the first", x.report(0, 0, 10, 18), 0);
        due(32, "BULK 18 at first", x.lone(0), 50);
        due(32, "BULK", x.lone(3), 18);
        // IRON 9: a coat swells by 4 in each WASH.
        due(30, "the second", x.report(15, 0, 78, 78), 1);
        due(32, "coats, 18 + 60", x.lone(0), 10);
        due(32, "KIND", x.lone(1), 2);
        // A coat of BULK 18 NEEDS 7 and CREASE; STEAM 2 is 8: at CREASE 0 WASHES of BULK 18, 22, 26; at CREASE 1 18, 22.
        due(30, "the third", x.report(15, 1, 1, 2), 2);
        due(32, "CREASE 1", x.lone(0), 1);
        due(32, "CREASE", x.lone(2), 1);
        due(30, "the fourth", x.report(1, 1, 1, 1), 3);
        due(32, "in the WASHES behind, not the one that comes", x.lone(0), 1);
        due(33, "the only one that FITS", x.liar(), NONE);
        due(30, "the fifth", x.report(0, 1, 1, 16), 4);
        due(32, "none", x.lone(0), 0);
        for (int what = 1; what < 4; what++) due(32, "none", x.lone(what), NONE);
        due(33, "the fifth", x.liar(), 4);
        due(30, "the sixth", x.report(0, 0, 0, 0), 5);
        due(33, "two are wrong", x.liar(), NONE);
        due(30, "a seventh", x.report(0, 0, 0, 0), FULL);
        due(30, "a seventh that is BAD", x.report(0, 0, 1, 0), BAD);
        due(31, "how many", x.forget(), 6);
        due(31, "none", x.forget(), 0);
        due(32, "all", x.lone(0), 500);

        x.report(0, 0, 9, 9);
        x.report(0, 0, 18, 18);
        due(33, "of two the least", x.liar(), 0);
        x.forget();
        x.board(0, 0, 9);
        x.board(0, 1, 9);
        x.ends(1);
        x.iron(0, 2);
        x.report(1, 0, 5, 6);
        due(32, "by IRONS as they are: coats of 0 have 6 behind WASH 0", x.lone(0), 10);
        due(32, "coats", x.lone(1), 2);
        x.iron(0, 3);
        due(32, "hats of 0 have 5 by SIGH 3", x.lone(1), 3);
        x.forget();
        x.report(15, 1, 16, 16);
        due(32, "never 16 of 15", x.lone(0), 0);
        due(33, "but for it all FIT", x.liar(), 0);
        x.forget();
        // What a field swells by is 0, 1, 2, 0, ..: its number is 0; so is linen's.
        x.report(15, 0, 15, 15);
        x.report(0, 0, 0, 0);
        due(32, "linen and fields have 15 behind 15 WASHES", x.lone(0), 20);
        due(32, "linen is less", x.lone(1), 4);
        x.report(0, 0, 81, 81);
        due(33, "BULK 81 at first is one that FITS nothing else", x.liar(), 2);
    }

    private static void lots() {
        Counted x = with(2, 12, 0, 0, 2, 24, 0, 0);
        due(34, "z was 1", x.seed(-5), 1);
        due(34, "z was -5", x.seed(77), -5);
        // 77 becomes 3366307586 without a sign; that is 51365 times 65536 and a rest; 51365 leaves 2 by 3.
        int z = 77 * 1103515245 + 12345;
        int act = (z >>> 16) % 3;
        due(35, "the ACT", act, 2);
        due(35, "what it was WORTH", x.lot(), 7);
        due(35, "SCORE", x.state(2), 7);
        due(35, "WASH", x.state(0), 1);
        due(34, "z goes on", x.seed(z), z);
        x.ends(1);
        refused(35, STATE, x, new int[] {0, 0}, v -> x.lot());

        Counted y = with(2, 12, 0, 0);
        y.ends(1);
        // One WASH: ACT 1 is WORTH 6, ACT 0 nothing.
        int told = 0;
        z = 1;
        for (int i = 0; i < 40; i++) {
            z = z * 1103515245 + 12345;
            told += (z >>> 16) % 2;
        }
        String before = look(y);
        due(36, "0 or more", y.times(40, 0), 40);
        due(36, "6 or more", y.times(40, 6), told);
        due(36, "7 or more", y.times(40, 7), 0);
        due(36, "the first one alone", y.times(1, 1), ((1103515245 + 12345) >>> 16) % 2);
        due(36, "all is as it was", look(y).equals(before) ? 1 : 0, 1);
        refused(36, BAD, y, new int[] {-1, 0, 41, LOW, HIGH}, v -> y.times(v, 0));
        refused(36, BAD, y, new int[] {-1, 1000, LOW, HIGH}, v -> y.times(1, v));
        due(36, "999 are not too many", y.times(1, 999), 0);
        y.wash();
        due(36, "OVER", y.times(3, 0), 3);
        due(36, "OVER", y.times(3, 1), 0);
    }

    private static void rows() {
        Counted x = with(2, 12, 0, 0, 2, 24, 0, 0, 1, 0, 0, 1);
        due(38, "none yet", x.row(0, 0), -9);
        due(40, "none yet", x.judge(), 0);
        due(37, "four", x.prove(4), 4);
        due(38, "the fourth", x.row(3, 1), 2);
        due(37, "none", x.prove(0), 0);
        x.on(16);
        due(37, "how many", x.prove(3), 3);
        due(50, "how many", x.many(4), 3);
        int[][] rows = {{1, 6, 1}, {2, 8, 3}, {0, 2, 3}};
        for (int k = 0; k < 3; k++) for (int w = 0; w < 3; w++) due(38, "row(" + k + ", " + w + ")", x.row(k, w), rows[k][w]);
        refused(37, BAD, x, new int[] {-1, 5, LOW, HIGH}, x::prove);
        refused(38, -9, x, new int[] {-1, 3, LOW, HIGH}, v -> x.row(v, 0));
        refused(38, -9, x, new int[] {-1, 3, LOW, HIGH}, v -> x.row(0, v));
        refused(39, -9, x, new int[] {-1, 3, LOW, HIGH}, v -> x.alterRow(v, 0, 0));
        refused(39, -9, x, new int[] {-1, 3, LOW, HIGH}, v -> x.alterRow(0, v, 0));
        due(40, "all is right", x.judge(), 0);
        due(39, "ACT", x.alterRow(2, 0, 3), 0);
        due(40, "another ACT as good", x.judge(), 0);
        due(39, "ACT", x.alterRow(2, 0, 4), 3);
        due(40, "no such ACT", x.judge(), 3);
        due(39, "ACT", x.alterRow(2, 0, -1), 4);
        due(40, "no such ACT", x.judge(), 3);
        due(39, "FLAT ones", x.alterRow(1, 2, 2), 3);
        due(40, "the first that isn't", x.judge(), 2);
        due(39, "WORTH", x.alterRow(0, 1, HIGH), 6);
        due(40, "the first that isn't", x.judge(), 1);
        due(38, "as altered", x.row(0, 1), HIGH);
        x.alterRow(0, 1, 6);
        x.alterRow(1, 2, 3);
        x.alterRow(2, 0, 0);
        due(40, "right again", x.judge(), 0);
        x.ends(2);
        due(40, "it is OVER there", x.judge(), 3);
        x.wash();
        due(40, "from how it is now", x.judge(), 1);
        due(37, "fewer", x.prove(4), 1);
        x.wash();
        due(37, "OVER", x.prove(4), 0);
        due(50, "no ROWS", x.many(4), 0);
        due(38, "none", x.row(0, 0), -9);
    }

    private static void sheets() {
        Counted x = with(2, 12, 0, 0, 2, 24, 0, 0);
        refused(41, BAD, x, new int[] {-1, 4, LOW, HIGH}, v -> x.sheet(v, 0, 1));
        refused(41, BAD, x, new int[] {-2, 5, LOW, HIGH}, v -> x.sheet(0, v, 1));
        refused(41, BAD, x, new int[] {41, HIGH}, v -> x.sheet(0, 0, v));
        refused(41, -14, x, new int[] {-1, LOW}, v -> x.sheet(0, 0, v));
        due(41, "BAD goes ahead", x.sheet(4, 0, -1), BAD);
        for (int sort = 0; sort < 5; sort++) {
            due(41, "sort " + sort, x.sheet(0, sort, 40), 1);
            due(43, "all 0", x.item(0, sort, 39), 0);
        }
        due(41, "missing, n counts nothing", x.sheet(0, -1, 41), 1);
        due(41, "missing, n counts nothing", x.sheet(0, -1, -1), 1);
        due(42, "missing", x.write(0, 0, 1), -11);
        due(42, "missing, and outside", x.write(0, 99, 1), -11);
        due(43, "missing", x.item(0, 3, 0), -11);

        int[] in = {300, -129, 65535, LOW, 0, 7};
        int[][] out = {{44, 127, -1, 0, 0, 7}, {300, -129, -1, 0, 0, 7}, in, in, {1, 1, 1, 1, 0, 1}};
        for (int sort = 0; sort < 5; sort++) {
            x.sheet(1, sort, 6);
            for (int i = 0; i < 6; i++) due(42, "write", x.write(1, i, in[i]), 1);
            for (int i = 0; i < 6; i++) due(43, "sort " + sort + " of " + in[i], x.item(1, sort, i), out[sort][i]);
            for (int other = 0; other < 5; other++) if (other != sort) due(43, "of another sort", x.item(1, other, 99), -13);
            int s = sort;
            refused(42, -12, x, new int[] {-1, 6, LOW, HIGH}, v -> x.write(1, v, 1));
            refused(43, -12, x, new int[] {-1, 6, LOW, HIGH}, v -> x.item(1, s, v));
        }
        refused(42, BAD, x, new int[] {-1, 4, LOW, HIGH}, v -> x.write(v, 0, 1));
        refused(43, BAD, x, new int[] {-1, 4, LOW, HIGH}, v -> x.item(v, 0, 0));
        refused(43, BAD, x, new int[] {-1, 5, LOW, HIGH}, v -> x.item(1, v, 0));
        x.sheet(3, 1, 2);
        x.write(3, 1, 5);
        due(43, "the last SHEET", x.item(3, 1, 1), 5);
        x.sheet(2, 0, 0);
        due(42, "none in it", x.write(2, 0, 1), -12);
    }

    private static void actsOnSheets() {
        Counted x = with(2, 12, 0, 0, 2, 24, 0, 0);
        x.sheet(0, 0, 5);
        x.sheet(1, 2, 5);
        int[] acts = {0, 3, 2, -1, 1};
        for (int i = 0; i < 5; i++) x.write(0, i, acts[i]);
        refused(44, BAD, x, new int[] {-1, 4, LOW, HIGH}, v -> x.goAll(v, 0, 1));
        refused(44, BAD, x, new int[] {-1, 21, LOW, HIGH}, v -> x.goAll(0, 0, v));
        refused(44, -13, x, new int[] {1}, v -> x.goAll(v, 99, 1));
        refused(44, -11, x, new int[] {2, 3}, v -> x.goAll(v, 99, 0));
        refused(44, -12, x, new int[] {-1, 5, LOW, HIGH}, v -> x.goAll(0, v, 1));
        due(44, "none of them", x.goAll(0, 99, 0), 0);
        refused(45, BAD, x, new int[] {-1, 4, LOW, HIGH}, v -> x.wouldBe(v, 0, 1));
        refused(45, BAD, x, new int[] {-1, 21, LOW, HIGH}, v -> x.wouldBe(0, 0, v));
        refused(45, -13, x, new int[] {1}, v -> x.wouldBe(v, 99, 1));
        refused(45, -11, x, new int[] {2, 3}, v -> x.wouldBe(v, 99, 0));
        refused(45, -12, x, new int[] {-1, 5, LOW, HIGH}, v -> x.wouldBe(0, v, 1));
        refused(45, STATE, x, new int[] {2, 20}, v -> x.wouldBe(0, 0, v));
        refused(45, -12, x, new int[] {2, 20}, v -> x.wouldBe(0, 4, v));
        due(45, "none of them", x.wouldBe(0, 99, 0), 0);
        due(45, "one", x.wouldBe(0, 2, 1), 7);
        due(45, "none is told", x.wouldBe(0, 0, 1), 0);
        String before = look(x);
        x.wouldBe(0, 4, 1);
        due(45, "nothing is changed", look(x).equals(before) ? 1 : 0, 1);

        // 0: nothing; 3 is none; 2: BULK 28, PAYS 6, and 1; -1 is none; 1: BULK 20, PAYS 5, and 2.
        due(44, "0 and 7 and 7", x.goAll(0, 0, 5), 14);
        due(44, "three WASHES", x.state(0), 3);
        due(44, "SCORE", x.state(2), 14);
        due(44, "what stood ahead is done", x.goAll(0, 4, 2), -12);
        due(44, "one WASH", x.state(0), 4);
        due(44, "SCORE", x.state(2), 16);
        x.ends(5);
        due(45, "OVER ahead of the second", x.wouldBe(0, 0, 2), STATE);
        x.write(0, 1, 0);
        due(45, "OVER ahead of the second", x.wouldBe(0, 0, 2), STATE);
        due(45, "the place goes ahead of OVER", x.wouldBe(0, 4, 2), -12);
        due(44, "OVER: the rest is left out", x.goAll(0, 0, 5), 2);
        due(44, "all is left out", x.goAll(0, 0, 5), 0);
        due(44, "but a place outside", x.goAll(0, 0, 6), -12);
        due(45, "OVER", x.wouldBe(0, 0, 1), STATE);
        due(45, "none", x.wouldBe(0, 0, 0), 0);
    }

    private static void shelves() {
        Counted x = new Counted();
        x.keep();
        for (int kind = 1; kind < 6; kind++) x.thing(kind, 0, 0, 0);
        x.sheet(0, 3, 7);
        refused(46, BAD, x, new int[] {-1, 4, LOW, HIGH}, v -> x.shelf(v, 0, 0));
        refused(46, BAD, x, new int[] {-1, 3, LOW, HIGH}, v -> x.shelf(0, v, 0));
        refused(46, BAD, x, new int[] {-1, 5, LOW, HIGH}, v -> x.shelf(0, 0, v));
        refused(46, BAD, x, new int[] {-1, 4, LOW, HIGH}, v -> x.shelf(0, 1, v));
        boolean[][] is = {
            // by number, then by KIND
            {true, true, false, false, false, false},
            {true, false, true, false, false, false},
            {true, false, true, true, false, false},
            {true, false, false, false, true, false},
            {true, false, false, false, true, true},
        };
        for (int k = 0; k < 5; k++) {
            due(46, "a THING", x.shelf(0, 0, k), 1);
            for (int as = 0; as < 6; as++) due(47, k + " as " + as, x.taken(0, as), is[k][as] ? k : -13);
            for (int as = 10; as < 15; as++) due(47, k + " as a row", x.taken(0, as), -13);
        }
        refused(47, BAD, x, new int[] {-1, 4, LOW, HIGH}, v -> x.taken(v, 0));
        refused(47, BAD, x, new int[] {-1, 6, 9, 15, LOW, HIGH}, v -> x.taken(0, v));
        due(46, "a row", x.shelf(1, 1, 0), 1);
        for (int as = 0; as < 6; as++) due(47, "a row as a thing", x.taken(1, as), -13);
        for (int as = 10; as < 15; as++) due(47, "a row", x.taken(1, as), as == 13 ? 7 : -13);
        x.sheet(0, 0, 2);
        due(47, "the row stays, though the SHEET is another", x.taken(1, 13), 7);
        due(46, "a missing one", x.shelf(2, 1, 3), 1);
        for (int as = 0; as < 15; as++) if (as < 6 || as > 9) due(47, "nothing", x.taken(2, as), -11);
        x.shelf(2, 0, 4);
        due(46, "nothing", x.shelf(1, 2, HIGH), 1);
        due(47, "nothing", x.taken(1, 13), -11);
        x.remake(4, 2);
        due(47, "as it is at the time", x.taken(2, 2), 4);
        x.again();
        due(47, "no such one at the time", x.taken(2, 0), -11);
        due(48, "no such one at the time", x.act(2, 0, 1), 0);
        for (int i = 0; i < 5; i++) x.thing(1, 0, 0, 0);
        due(47, "there is again", x.taken(2, 0), 4);
    }

    private static void trace(Counted x, String what, int... bodies) {
        due(50, "bodies of " + what, x.many(6), bodies.length);
        for (int i = 0; i < bodies.length; i++) due(49, "body " + i + " of " + what, x.trace(i), bodies[i]);
        due(49, "behind the last of " + what, x.trace(bodies.length), NONE);
        due(49, "ahead of the first of " + what, x.trace(-1), NONE);
    }

    private static void acts() {
        // n: 0 to 4; a: 1, 1, 3, 0, 3.
        Counted x = with(1, 0, 0, 1, 2, 0, 0, 1, 3, 0, 0, 3, 4, 0, 0, 0, 5, 0, 0, 3);
        for (int s = 0; s < 4; s++) x.shelf(s, 0, s);
        // copper 0, a 1: folds 60 ^ 23 = 43; airs 43 + 7; shares 10 / 1; stores 50 - 10.
        due(48, "copper folds", x.act(0, 0, 10), 43);
        trace(x, "copper folds", 20, 10);
        due(48, "copper airs", x.act(0, 1, 10), 50);
        trace(x, "copper airs", 11, 20, 10);
        due(48, "copper shares", x.act(0, 2, 10), 10);
        trace(x, "copper shares", 12);
        due(48, "copper stores", x.act(0, 3, 10), 40);
        trace(x, "copper stores", 13, 11, 20, 10, 12);
        // coat 1, a 1: folds 58; airs (58 + 7) * 2; shares 10 / 2; stores 130 - 5.
        due(48, "coat folds", x.act(1, 0, 10), 58);
        due(48, "coat airs", x.act(1, 1, 10), 130);
        trace(x, "coat airs", 30, 11, 10);
        due(48, "coat shares, cut towards 0", x.act(1, 2, -11), -5);
        due(48, "coat stores", x.act(1, 3, 10), 125);
        trace(x, "coat stores", 13, 30, 11, 10, 12);
        // hat 2, a 3: folds (10 + 9) * 6 - 4 = 110; airs (110 + 21) * 2 = 262; shares 10 / 1; stores 262 - 10 - airs(3): (68 + 21) * 2 = 178.
        due(48, "hat folds", x.act(2, 0, 10), 110);
        trace(x, "hat folds", 50, 10);
        due(48, "hat airs", x.act(2, 1, 10), 262);
        due(48, "hat stores", x.act(2, 3, 10), 74);
        trace(x, "hat stores", 51, 13, 30, 11, 50, 10, 12, 30, 11, 50, 10);
        // linen 3, a 0: shares 10 / 5 + 8; stores 54 + 0 - 10.
        due(48, "linen shares", x.act(3, 2, 10), 10);
        trace(x, "linen shares", 40, 12);
        due(48, "linen stores", x.act(3, 3, 10), 44);
        trace(x, "linen stores", 13, 11, 10, 40, 12);
        // field 4, a 3: folds 52; airs -(52 + 21); shares (10 / 3 + 8) ^ (24 - 8) = 11 ^ 16 = 27; stores -73 - 27.
        x.shelf(0, 0, 4);
        due(48, "field airs", x.act(0, 1, 10), -73);
        trace(x, "field airs", 60, 11, 10);
        due(48, "field shares", x.act(0, 2, 10), 27);
        trace(x, "field shares", 61, 40, 12, 10);
        due(48, "field stores", x.act(0, 3, 10), -100);
        trace(x, "field stores", 13, 60, 11, 10, 61, 40, 12, 10);
        due(48, "ints wrap", x.act(0, 0, HIGH), HIGH * 6 - 8);

        // Parted by 0: n - a + 2 is 0.
        x.change(2, 3, 4);
        due(48, "hat shares", x.act(2, 2, 10), -15);
        trace(x, "hat shares", 12);
        due(48, "hat stores", x.act(2, 3, 10), -15);
        trace(x, "hat stores, parted by 0", 51, 13, 30, 11, 50, 10, 12);
        x.change(3, 3, 5);
        x.remake(3, 5);
        due(48, "field shares", x.act(3, 2, 10), -15);
        trace(x, "field shares, parted by 0", 61, 40, 12);
        x.change(2, 3, 5);
        due(48, "the lowest by -1", x.act(2, 2, LOW), LOW);

        int[][] none = {{-1, 0}, {4, 0}, {0, -1}, {0, 4}, {LOW, HIGH}};
        for (int[] n : none) {
            x.act(0, 0, 1);
            due(48, "act(" + n[0] + ", " + n[1] + ")", x.act(n[0], n[1], 5), 0);
            trace(x, "none");
        }
        x.act(0, 0, 1);
        x.shelf(1, 2, 0);
        due(48, "nothing there", x.act(1, 0, 5), 0);
        trace(x, "nothing there");
        x.sheet(0, 0, 3);
        x.shelf(1, 1, 0);
        x.act(0, 0, 1);
        due(48, "a row there", x.act(1, 0, 5), 0);
        trace(x, "a row there");
    }

    private static void manyAndKept() {
        Counted x = with(2, 12, 0, 0, 2, 24, 0, 0);
        rules(x, "hat leave; coat press;");
        x.report(1, 1, 1, 9);
        feed(x, "hat");
        x.prove(2);
        x.wash();
        x.shelf(0, 0, 0);
        x.act(0, 3, 1);
        int[] many = {2, 2, 1, 1, 2, 3, 5};
        for (int i = 0; i < 7; i++) due(50, "many(" + i + ")", x.many(i), many[i]);
        refused(50, BAD, x, new int[] {-1, 7, LOW, HIGH}, x::many);

        due(52, "nothing is kept", x.again(), NONE);
        x.iron(5, 4);
        x.board(2, 0, 7);
        x.board(3, 1, 6);
        x.ends(9);
        x.seed(123);
        due(51, "kept", x.keep(), 1);
        String before = look(x);
        x.iron(5, 5);
        x.board(2, 0, 1);
        x.board(3, 1, 1);
        x.wash();
        x.lot();
        x.ends(16);
        x.thing(1, 1, 1, 1);
        x.remake(0, 5);
        x.change(1, 2, 9);
        x.change(1, 3, 4);
        rules(x, " if");
        x.forget();
        x.report(2, 0, 0, 20);
        x.report(2, 0, 0, 20);
        feed(x, "coat leave;");
        x.rules();
        feed(x, "hat");
        due(52, "how many THINGS", x.again(), 2);
        due(52, "all as it was", look(x).equals(before) ? 1 : 0, 1);
        due(52, "IRONS, too", x.iron(5, 9), 4);
        due(52, "the REPORT, too", x.lone(0), lonesOfOne());
        due(52, "WILL, too", x.thingOf(1, 9), 0);

        feed(x, "fold;");
        x.prove(1);
        x.sheet(0, 0, 9);
        x.shelf(1, 1, 0);
        x.act(0, 0, 1);
        x.seed(9);
        due(52, "it stays kept", x.again(), 2);
        due(52, "z", x.seed(123), 123);
        due(52, "THE TAPE is not what was kept", x.many(5), 8);
        due(52, "nor are ROWS", x.many(4), 1);
        due(52, "nor SHEETS", x.item(0, 0, 8), 0);
        due(52, "nor SHELVES", x.taken(1, 10), 9);
        due(52, "nor THE TRACE", x.many(6), 1);
        x.thing(1, 0, 0, 0);
        x.keep();
        x.thing(1, 0, 0, 0);
        due(52, "the latest", x.again(), 3);
    }

    private static int lonesOfOne() {
        Counted x = new Counted();
        x.report(1, 1, 1, 9);
        return x.lone(0);
    }

    public static void main(String[] args) {
        due(0, "BAD", IronedFlat.BAD, BAD);
        due(0, "FULL", IronedFlat.FULL, FULL);
        due(0, "NONE", IronedFlat.NONE, NONE);
        due(0, "STATE", IronedFlat.STATE, STATE);
        newObject();
        things();
        thingsTold();
        changes();
        ironsAndBoards();
        endsAndState();
        tape();
        faults();
        wills();
        washes();
        folds();
        bestCreaseAndBoard();
        fatLeastLeft();
        piles();
        plans();
        games();
        strangers();
        lots();
        rows();
        sheets();
        actsOnSheets();
        shelves();
        acts();
        manyAndKept();
        done("PromisesTest");
    }
}
