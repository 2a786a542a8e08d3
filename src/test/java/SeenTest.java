import java.util.function.Consumer;

/** What one part of the document says of another: what a call alters, all later calls see; what was asked ahead, none sees. */
public final class SeenTest extends Told {
    // ---- worked out by hand: ahead of what is altered, and behind it

    private static void thing() {
        says("A THING of a KIND 1 to 5: its number. BAD; FULL.");
        Counted x = with(2, 12, 0, 0, 4, 24, 2, 1);
        x.ends(1);
        x.sheet(0, 0, 1);
        x.write(0, 0, 3);
        // z >>> 16 is 38526: by 3 that leaves 0, by 4 it leaves 2.
        x.seed(1103527590);
        due("no such THING to FLATTEN", x.note(1, 4), BAD);
        due("no such THING to bar", x.bars(1, 4), BAD);
        due("no such THING to hold", x.shelf(0, 0, 2), BAD);
        due("no such PILE", x.piles(2), BAD);
        due("3 is no ACT", x.wouldBe(0, 0, 1), STATE);
        due("3 is left out", x.goAll(0, 0, 1), 0);
        due("no WASH went by", x.state(0), 0);
        due("by LOT none is told", x.times(1, 1), 0);
        due("linen of BULK 0, CREASE 0 on BOARD 0", x.thing(4, 0, 0, 0), 2);
        due("how many", x.many(0), 3);
        due("BULK of all", x.state(6), 36);
        due("it hangs together with the coat", x.piles(0), 5);
        due("and the coat with it", x.piles(2), 5);
        due("PILES", x.piles(-1), 2);
        due("one ACT", x.note(1, 4), 1);
        due("none of three is barred", x.bars(1, 7), NONE);
        due("ways: linen of 24 alone is WORTH 7", x.ways(1), 1);
        due("4 and 1", x.wouldBe(0, 0, 1), 5);
        due("by LOT linen of 24 is told: 6 and 1", x.times(1, 7), 1);
        due("no more", x.times(1, 8), 0);
        due("it is held", x.shelf(0, 0, 2), 1);
        due("as linen", x.taken(0, 4), 2);
        due("3 is an ACT", x.goAll(0, 0, 1), 5);
        due("it is FLAT", x.state(4), 4);
    }

    private static void bulk() {
        says("BULK (what 1), CREASE (2), BOARD (3), FLAT (4: 0, 1; BULK stays) of a THING becomes v: what it was. BAD.");
        Counted x = with(2, 12, 0, 0);
        rules(x, "coat if bulk > 60 fold;");
        // 12: it NEEDS 6 of 8. 60: 14. 61: 14, and it folds.
        int[][] told = {
            // BULK, NEEDS, PAYS, WILL, FAT, LEAST, LEFT by 1, when, on(1)
            {12, 6, 5, 0, NONE, 2, 0, 0, 6},
            {60, 14, 0, 0, 0, NONE, 64, NONE, 0},
            {61, 14, 0, 2, 0, NONE, 65, NONE, 0},
            {35, 9, 0, 0, 7, 3, 39, NONE, 0},
            {0, 4, 4, 0, NONE, 1, 0, 0, 5},
        };
        for (int[] t : told) {
            x.change(0, 1, t[0]);
            String of = " of BULK " + t[0];
            due("BULK of all" + of, x.state(6), t[0]);
            due("NEEDS" + of, x.thingOf(0, 6), t[1]);
            due("PAYS" + of, x.thingOf(0, 7), t[2]);
            due("WILL" + of, x.thingOf(0, 9), t[3]);
            due("FAT" + of, x.fat(0), t[4]);
            due("LEAST" + of, x.least(0), t[5]);
            due("LEFT" + of, x.left(1, 0), t[6]);
            due("when" + of, x.when(0), t[7]);
            due("on(1)" + of, x.on(1), t[8]);
            due("best(1)" + of, x.best(1), t[8]);
            due("game(1)" + of, x.game(1), t[8]);
        }
    }

    private static void creaseAndBoard() {
        says("CLOSE: two THINGS that aren't FLAT, of the same BOARD, or CREASED the same");
        Counted x = with(2, 12, 0, 0, 4, 0, 2, 1);
        due("two PILES", x.piles(-1), 2);
        due("linen NEEDS half of 2", x.thingOf(1, 6), 1);
        x.change(1, 2, 0);
        due("CREASED the same", x.piles(-1), 1);
        due("both", x.piles(1), 3);
        due("linen NEEDS nothing", x.least(1), 0);
        x.change(0, 2, 4);
        due("two PILES", x.piles(-1), 2);
        due("the coat NEEDS 10 of 8", x.when(0), NONE);
        due("so linen is pressed at once", x.when(1), 0);
        due("the coat would be with less", x.creaseFor(0), 0);
        rules(x, "coat if crease = 4 leave;");
        due("CREASE tells", x.thingOf(0, 9), 1);
        x.change(0, 2, 3);
        due("another CREASE", x.thingOf(0, 9), 0);
        x.change(0, 2, 4);
        rules(x, "");

        says("PRESS on a BOARD: 4 for each of STEAM, its WEIGHT, and 2 for each THING that is FLAT there.", "n: its number, a: its BOARD");
        x.board(3, 0, 2);
        x.shelf(0, 0, 0);
        due("airs (6 + 0) * 2", x.act(0, 1, 1), 12);
        due("shares 10 / 2", x.act(0, 2, 10), 5);
        due("the coat may not be pressed", x.thingOf(0, 8), 0);
        x.change(0, 3, 3);
        due("it may on BOARD 3, by 10", x.thingOf(0, 8), 1);
        due("at STEAM 2", x.least(0), 2);
        due("it is pressed ahead of linen", x.when(0), 0);
        due("linen is the second", x.when(1), 1);
        due("airs (6 + 21) * 2", x.act(0, 1, 1), 54);
        due("shares 10 / -1", x.act(0, 2, 10), -10);
        x.change(0, 3, 2);
        due("shares 10 / 0", x.act(0, 2, 10), PARTED_BY_ZERO);
    }

    private static void flat() {
        says("A PLAN of n: n WASHES (fewer, if it is OVER), ahead of each an ACT", "NONE (also if it is now).", "0: it is FLAT");
        Counted x = with(2, 12, 4, 0, 4, 0, 0, 0);
        due("8 of 10", x.thingOf(0, 7), 0);
        due("linen alone is pressed: 4 and 1", x.on(1), 5);
        due("one PILE", x.piles(-1), 1);
        x.change(1, 4, 1);
        due("10 of 10", x.thingOf(0, 7), 5);
        due("the coat is pressed: 5 and 2", x.on(1), 7);
        due("likewise", x.best(1), 7);
        due("the coat alone", x.piles(0), 1);
        due("not linen", x.piles(1), 0);
        due("none is needed", x.note(0, 2), 0);
        due("one is needed", x.note(1, 3), 1);
        due("how many are FLAT", x.many(2), 1);
        due("which", x.state(4), 2);
        due("no more", x.when(1), NONE);
        due("nor by STEAM", x.least(1), NONE);
        due("PAYS nothing", x.thingOf(1, 7), 0);
        x.change(1, 3, 5);
        due("it is FLAT on another BOARD", x.thingOf(0, 7), 0);
        x.change(1, 4, 0);
        due("not FLAT", x.state(4), 0);
        due("pressed at once", x.when(1), 0);
    }

    private static void kind() {
        says("A THING becomes one of another KIND (1 to 5): the KIND that it was. BAD.");
        Counted x = with(2, 12, 0, 0);
        rules(x, "linen leave; thing if crease > 0 fold;");
        x.shelf(0, 0, 0);
        // KIND, SWELLS, NEEDS, MAY, WILL, what it shares of 10, on(1): of BULK 12, CREASE 0.
        int[][] told = {{2, 4, 6, 1, 0, 5, 6}, {4, 0, 1, 0, 1, 13, 0}, {5, 0, 1, 0, 1, 13, 0}, {3, 1, 4, 1, 0, 5, 6}, {1, 0, 30, 0, 0, 5, 0}, {2, 4, 6, 1, 0, 5, 6}};
        for (int[] t : told) {
            x.remake(0, t[0]);
            String of = " of KIND " + t[0];
            due("SWELLS" + of, x.thingOf(0, 5), t[1]);
            due("NEEDS" + of, x.thingOf(0, 6), t[2]);
            due("MAY" + of, x.thingOf(0, 8), t[3]);
            due("WILL" + of, x.thingOf(0, 9), t[4]);
            // A field shares (10 / 2 + 8) ^ folds(0), which is 0.
            due("shares" + of, x.act(0, 2, 10), t[5]);
            due("on(1)" + of, x.on(1), t[6]);
            due("taken" + of, x.taken(0, t[0]), 0);
            due("taken for copper" + of, x.taken(0, 1), t[0] == 1 ? 0 : OTHER_SORT);
        }
    }

    private static void iron() {
        says("The IRON of a WASH (0 to 15) becomes v (0 to 15): what it was. BAD.", "by IRONS as they are");
        Counted x = with(2, 12, 0, 0);
        x.report(1, 0, 4, 4);
        due("ten coats of 0 swell to 4", x.lone(0), 10);
        due("at once", x.when(0), 0);
        due("5 and 1", x.on(1), 6);
        x.iron(0, 2);
        due("IRON now", x.state(5), 2);
        due("by SIGH 2 none has 4", x.lone(0), 0);
        due("the REPORT is wrong", x.liar(), 0);
        due("SWELLS", x.thingOf(0, 5), 6);
        due("PAYS", x.thingOf(0, 7), 0);
        due("LEAST doesn't count it", x.least(0), 2);
        due("in WASH 1 18 NEEDS 7", x.when(0), 1);
        due("nothing in WASH 0", x.on(1), 0);
        due("two: 5 and 1", x.on(2), 6);
        rules(x, "coat if steam = 0 fold;");
        due("the STEAM of that WASH tells", x.thingOf(0, 9), 2);
        due("a fold at SIGH 2", x.best(1), 0);
        x.iron(0, 0);
        due("a fold at SIGH 0", x.best(1), 1);
        due("told so", x.ith(1, 0), 1);
        x.iron(1, 13);
        due("not of this WASH", x.thingOf(0, 9), 2);
        x.iron(0, 13);
        due("of this WASH", x.thingOf(0, 9), 0);
    }

    private static void board() {
        says("The WEIGHT of a BOARD (what 0), its ROPE (1) becomes v: what it was. BAD.", "on a BOARD of WEIGHT 0, ROPE 0");
        Counted x = with(2, 12, 4, 2);
        x.report(1, 0, 4, 4);
        int[][] byWeight = {{0, 3, 0, 0}, {1, 3, 0, 0}, {2, 2, 5, 6}, {6, 1, 5, 6}, {9, 1, 5, 6}, {0, 3, 0, 0}};
        for (int[] t : byWeight) {
            x.board(2, 0, t[0]);
            due("LEAST by WEIGHT " + t[0], x.least(0), t[1]);
            due("PAYS by WEIGHT " + t[0], x.thingOf(0, 7), t[2]);
            due("on(1) by WEIGHT " + t[0], x.on(1), t[3]);
            due("best(1) by WEIGHT " + t[0], x.best(1), t[3]);
            due("LONE THINGS by WEIGHT " + t[0], x.lone(0), 10);
        }
        x.change(0, 1, 52);
        x.change(0, 2, 9);
        // It swells by 4, less a third: 52, 56, 60; 52, 55, 58, 61; 52, 54, ..; 52, 53, ..
        int[][] byRope = {{0, 4, 2}, {3, 3, 3}, {6, 2, 4}, {9, 1, 8}, {2, 4, 2}};
        for (int[] t : byRope) {
            x.board(2, 1, t[0]);
            due("SWELLS by ROPE " + t[0], x.thingOf(0, 5), t[1]);
            due("FAT by ROPE " + t[0], x.fat(0), t[2]);
            due("LEFT by ROPE " + t[0], x.left(2, 0), 52 + 2 * t[1]);
            due("LONE THINGS by ROPE " + t[0], x.lone(0), 10);
        }
        x.board(3, 0, 9);
        x.board(3, 1, 9);
        due("another BOARD doesn't count", x.thingOf(0, 5), 4);
    }

    /** Linen of BULK 0 at IRON 0: it NEEDS 0 and PAYS 4. */
    private static Counted twoOfLinen() {
        Counted x = with(4, 0, 0, 0, 4, 0, 0, 0);
        allIrons(x, 0);
        return x;
    }

    private static void end() {
        says("END becomes v: what it was. BAD; STATE: v is below WASH.");
        // 5, then 6, then 2 each.
        Counted x = twoOfLinen();
        x.sheet(0, 0, 3);
        for (int i = 0; i < 3; i++) x.write(0, i, i);
        x.report(9, 1, 9, 9);
        int lone = x.lone(0);
        x.prove(3);
        // END, on(16), best(3), how many of the best PLANS, game(3), when(1), judge, wouldBe of 0, 1, 2, OVER.
        int[][] told = {{12, 31, 13, 6, 12, 1, 0, 11, 0}, {2, 11, 11, 2, 6, 1, 3, STATE, 0}, {1, 5, 5, 2, 5, NONE, 2, STATE, 0}, {16, 39, 13, 6, 12, 1, 0, 11, 0}, {3, 13, 13, 6, 12, 1, 0, 11, 0}};
        for (int[] t : told) {
            x.ends(t[0]);
            String of = " by END " + t[0];
            due("END", x.state(1), t[0]);
            due("on(16)" + of, x.on(16), t[1]);
            due("best(3)" + of, x.best(3), t[2]);
            due("ways(3)" + of, x.ways(3), t[3]);
            due("game(3)" + of, x.game(3), t[4]);
            due("when(1)" + of, x.when(1), t[5]);
            due("judge()" + of, x.judge(), t[6]);
            due("wouldBe(0, 0, 3)" + of, x.wouldBe(0, 0, 3), t[7]);
            due("OVER" + of, x.state(3), t[8]);
            due("LONE THINGS" + of, x.lone(0), lone);
        }
        due("0, 5 and 6", x.goAll(0, 0, 3), 11);
        due("it is OVER", x.state(3), 1);
        due("none goes by", x.wash(), STATE);
        due("nor by LOT", x.lot(), STATE);
        due("nor of a SHEET", x.goAll(0, 0, 3), 0);
        x.ends(4);
        due("one more", x.wash(), 2);
        due("SCORE", x.state(2), 13);
    }

    private static void anew() {
        says("WASH is 0 again, SCORE 0, none is FLAT (BULK, CREASE stay): what WASH was.");
        Counted x = twoOfLinen();
        rules(x, "linen if wash > 1 fold;");
        x.iron(0, 1);
        x.prove(2);
        due("5", x.wash(), 5);
        due("6", x.wash(), 6);
        due("WILL in WASH 2", x.thingOf(0, 9), 2);
        due("swells by 2 in WASH 2", x.thingOf(0, 5), 2);
        due("ROWS are not right from here", x.judge(), 1);
        x.ends(2);
        due("OVER", x.state(3), 1);
        due("what WASH was", x.anew(), 2);
        due("not OVER", x.state(3), 0);
        due("WILL in WASH 0", x.thingOf(0, 9), 0);
        due("swells by 0 in WASH 0", x.thingOf(0, 5), 0);
        due("IRON of WASH 0", x.state(5), 1);
        due("ROWS are right again", x.judge(), 0);
        due("SCORE", x.state(2), 0);
        due("as at first", x.on(16), 11);
        due("as at first", x.wash(), 5);
        due("SCORE", x.state(2), 5);
    }

    private static void threeWaysOfAWash() {
        says("A WASH goes by as in THE REST: what it was WORTH.", "A WASHE by LOT: what it was WORTH.", "what these WASHES were WORTH together");
        // By LOT: z is 2207042835 then, of which z >>> 16 is 33676; by 3 that leaves 1.
        Counted wash = twoOfLinen();
        Counted lot = twoOfLinen();
        Counted told = twoOfLinen();
        lot.seed(2);
        due("by LOT", lot.lot(), 5);
        due("as in THE REST", wash.wash(), 5);
        due("of a SHEET", tell(told, 1), 5);
        Counted[] all = {wash, lot, told};
        for (Counted x : all) {
            int[] state = {1, 12, 5, 0, 1, 0, 0};
            for (int i = 0; i < 7; i++) due("state(" + i + ")", x.state(i), state[i]);
            due("linen swells by 1 in WASH 1", x.thingOf(1, 5), 1);
            due("6, and 2 in 10 WASHES", x.on(16), 26);
            due("the first is FLAT", x.when(0), NONE);
            due("the second in WASH 1", x.when(1), 1);
            due("one of them is FLAT now", x.note(1, 3), 1);
            due("a PILE of one", x.piles(1), 2);
            due("6, 2, 2", x.best(3), 10);
            due("the second, then any", x.ith(3, 0), 2);
            due("6 and the least", x.play(1), 2);
            due("of one WASHE", x.prove(1), 1);
            due("6", x.row(0, 1), 6);
            due("both are FLAT then", x.row(0, 2), 3);
        }
        due("z is as it was", wash.seed(0), 1);
        due("z goes on", lot.seed(0), (int) 2207042835L);
        due("z is as it was", told.seed(0), 1);
    }

    private static void again() {
        says("It becomes what was kept latest (which stays): how many THINGS.");
        Counted x = twoOfLinen();
        rules(x, "linen if number = 1 leave;");
        x.report(0, 0, 9, 9);
        x.wash();
        x.keep();
        x.shelf(0, 0, 1);
        x.prove(2);
        x.anew();
        x.thing(2, 50, 9, 4);
        x.remake(1, 1);
        x.change(1, 1, 77);
        allIrons(x, 15);
        x.board(0, 1, 9);
        rules(x, "");
        x.forget();
        x.seed(5);
        x.ends(3);
        x.wash();
        due("two THINGS", x.again(), 2);
        // The first is FLAT, the second is left: 1 each of 11 WASHES.
        due("on(16)", x.on(16), 11);
        due("best(2)", x.best(2), 2);
        due("no PLAN", x.note(4, 2), NONE);
        due("barred", x.bars(4, 3), 1);
        due("WILL", x.thingOf(1, 9), 1);
        due("SWELLS", x.thingOf(1, 5), 1);
        due("FAT", x.fat(1), NONE);
        due("LONE THINGS", x.lone(0), 50);
        due("z", x.times(1, 11), 1);
        due("SCORE", x.state(2), 5);
        due("END", x.state(1), 12);
        due("ROWS stay, and are right from here", x.judge(), 0);
        due("what a SHELF holds is linen again", x.taken(0, 4), 1);
        due("no third", x.shelf(1, 0, 2), BAD);
        due("z", x.seed(0), 1);
    }

    // ---- asked all ahead or not, made so or altered: it answers the same

    private static Counted bare() {
        Counted x = new Counted();
        x.board(0, 0, 4);
        x.board(2, 1, 9);
        irons(x, 9, 14, 7, 3, 8, 12);
        return x;
    }

    private static void furnish(Counted x) {
        rules(x, "hat if wash < 2 fold; coat if bulk > 60 leave;");
        x.report(2, 0, 5, 40);
        x.report(4, 1, 1, 3);
        x.sheet(0, 0, 3);
        for (int i = 0; i < 3; i++) x.write(0, i, 3 - i);
        x.shelf(0, 0, 0);
    }

    /** A coat, linen and a hat, each by BULK, CREASE, BOARD. */
    private static Counted laundry(int... v) {
        Counted x = bare();
        int[] kinds = {2, 4, 3};
        for (int k = 0; k < 3; k++) x.thing(kinds[k], v[3 * k], v[3 * k + 1], v[3 * k + 2]);
        furnish(x);
        return x;
    }

    private static Counted laundry() {
        return laundry(40, 2, 1, 30, 3, 0, 44, 5, 2);
    }

    private static String askedAll(Counted x) {
        StringBuilder b = new StringBuilder();
        for (int i = 0; i < 7; i++) add(b, x.state(i), i < 4 ? x.many(i) : 0);
        for (int k = 0; k < 4; k++) {
            for (int what = 0; what < 10; what++) add(b, x.thingOf(k, what));
            add(b, x.when(k), x.creaseFor(k), x.boardFor(k), x.fat(k), x.least(k), x.piles(k));
        }
        for (int f = 0; f < 4; f++) add(b, x.boardOf(f, 0), x.boardOf(f, 1));
        add(b, x.on(1), x.on(3), x.on(16), x.left(2, 0), x.left(16, 1), x.piles(-1));
        for (int n = 1; n < 4; n++) add(b, x.best(n), x.ways(n), x.note(n, 3), x.bars(n, 7), x.game(n), x.play(n), x.ith(3, n - 1));
        for (int what = 0; what < 4; what++) add(b, x.lone(what), x.act(0, what, 11), x.many(6), x.taken(0, what));
        add(b, x.liar(), x.times(9, 20), x.times(40, 45), x.wouldBe(0, 0, 3), x.prove(3), x.judge());
        for (int what = 0; what < 3; what++) add(b, x.row(0, what), x.row(2, what));
        return b.toString();
    }

    private static void add(StringBuilder b, int... v) {
        for (int i : v) b.append(i).append(' ');
    }

    private static void same(String what, Consumer<Counted> alter, Counted madeSo) {
        Counted x = laundry();
        String before = askedAll(x);
        due(what + ": asked again", askedAll(x).equals(before) ? 1 : 0, 1);
        alter.accept(x);
        String due = askedAll(madeSo);
        due(what + ": it tells", due.equals(before) ? 1 : 0, 0);
        due(what + ": as if made so, and unasked", askedAll(x).equals(due) ? 1 : 0, 1);
    }

    private static Counted altered(Consumer<Counted> alter) {
        Counted x = laundry();
        alter.accept(x);
        return x;
    }

    private static void asIfMadeSo() {
        says("What is asked changes nothing, if not told.");
        same("BULK", x -> x.change(0, 1, 65), laundry(65, 2, 1, 30, 3, 0, 44, 5, 2));
        same("CREASE", x -> x.change(1, 2, 5), laundry(40, 2, 1, 30, 5, 0, 44, 5, 2));
        same("BOARD", x -> x.change(2, 3, 0), laundry(40, 2, 1, 30, 3, 0, 44, 5, 0));
        same("FLAT", x -> x.change(1, 4, 1), altered(x -> x.change(1, 4, 1)));
        Counted hat = bare();
        hat.thing(5, 40, 2, 1);
        hat.thing(4, 30, 3, 0);
        hat.thing(3, 44, 5, 2);
        furnish(hat);
        same("KIND", x -> x.remake(0, 5), hat);
        same("a THING", x -> x.thing(4, 5, 0, 1), altered(x -> x.thing(4, 5, 0, 1)));
        same("IRON", x -> x.iron(1, 2), altered(x -> x.iron(1, 2)));
        same("WEIGHT", x -> x.board(1, 0, 5), altered(x -> x.board(1, 0, 5)));
        same("ROPE", x -> x.board(1, 1, 7), altered(x -> x.board(1, 1, 7)));
        same("END", x -> x.ends(2), altered(x -> x.ends(2)));
        same("THE RULES", x -> rules(x, "linen leave;"), altered(x -> rules(x, "linen leave;")));
        same("a REPORT", x -> x.report(3, 0, 20, 25), altered(x -> x.report(3, 0, 20, 25)));
        same("no REPORTS", x -> x.forget(), altered(x -> x.forget()));
        same("z", x -> x.seed(77), altered(x -> x.seed(77)));
        same("a WASH", x -> x.wash(), altered(x -> x.wash()));
        same("by LOT", x -> x.lot(), altered(x -> x.lot()));
        same("of a SHEET", x -> x.goAll(0, 0, 2), altered(x -> x.goAll(0, 0, 2)));
    }

    private static void asIfNeverAltered() {
        says("All but THE TAPE, ROWS, SHEETS, SHELVES, THE TRACE is kept: 1.");
        Counted x = laundry();
        x.keep();
        String before = askedAll(x);
        for (int k = 0; k < 3; k++) {
            x.remake(k, 1 + k);
            x.change(k, 1, 9 * k);
            x.change(k, 2, 9 - k);
            x.change(k, 3, 4);
            x.change(k, 4, 1);
        }
        x.thing(5, 1, 1, 1);
        allIrons(x, 5);
        for (int f = 0; f < 4; f++) {
            x.board(f, 0, 8);
            x.board(f, 1, 4);
        }
        rules(x, "thing fold;");
        x.report(0, 0, 9, 18);
        x.lot();
        x.ends(5);
        x.again();
        due("asked all as ahead", askedAll(x).equals(before) ? 1 : 0, 1);
    }

    public static void main(String[] args) {
        thing();
        bulk();
        creaseAndBoard();
        flat();
        kind();
        iron();
        board();
        end();
        anew();
        threeWaysOfAWash();
        again();
        asIfMadeSo();
        asIfNeverAltered();
        done("SeenTest");
    }
}
