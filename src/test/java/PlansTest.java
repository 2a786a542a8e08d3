/** Part 3 of the document, PLANS, NOTE and BAR, GAMES and ROWS, sentence by sentence, at their edges. */
public final class PlansTest extends Told {
    /** Linen of BULK 0 at IRON 0: it NEEDS 0 and PAYS 4 as long as its BULK is below 12. */
    private static Counted linen(int n) {
        Counted x = new Counted();
        for (int k = 0; k < n; k++) x.thing(4, 0, 0, 0);
        allIrons(x, 0);
        return x;
    }

    private static void first(Counted x, int n, int... acts) {
        for (int i = 0; i < 4; i++) due("ith(" + n + ", " + i + ")", x.ith(n, i), i < acts.length ? acts[i] : NONE);
    }

    private static void plans() {
        says("A PLAN of n: n WASHES (fewer, if it is OVER), ahead of each an ACT: 0 none is told, or 1 more than the number of the THING that is. Its WORTH: of these WASHES together.",
            "BEST: those with most WORTH; the FIRST of these is that with the lesser ACT where they are unlike first.");
        // Two: 5, then 4 and 2, then 2 each. Any ACT does when both are FLAT.
        int[] bestOfTwo = {0, 5, 11, 13, 15};
        int[] waysOfTwo = {1, 2, 2, 6, 18};
        // Three: 5, then 6, then 4 and 3, then 3.
        int[] bestOfThree = {0, 5, 11, 18, 21};
        int[] waysOfThree = {1, 3, 6, 6, 24};
        Counted x = linen(2);
        Counted y = linen(3);
        asks(x, () -> {
            for (int n = 0; n < 5; n++) {
                due("best(" + n + ") of two", x.best(n), bestOfTwo[n]);
                due("ways(" + n + ") of two", x.ways(n), waysOfTwo[n]);
            }
        });
        for (int n = 0; n < 5; n++) {
            due("best(" + n + ") of three", y.best(n), bestOfThree[n]);
            due("ways(" + n + ") of three", y.ways(n), waysOfThree[n]);
        }
        first(x, 0);
        first(x, 1, 1);
        first(x, 2, 1, 2);
        first(x, 3, 1, 2, 0);
        first(x, 4, 1, 2, 0, 0);
        first(y, 3, 1, 2, 3);
        first(y, 4, 1, 2, 3, 0);
        // Six: each that is told makes 4, and one more is FLAT: 5, 6, 7, 8.
        Counted six = linen(6);
        due("best(4) of six", six.best(4), 26);
        due("ways(4) of six", six.ways(4), 6 * 5 * 4 * 3);
        due("ways(1) of six", six.ways(1), 6);
        first(six, 4, 1, 2, 3, 4);
        six.change(0, 4, 1);
        six.change(2, 4, 1);
        first(six, 4, 2, 4, 5, 6);
        due("two are FLAT: 7, 8, 9, 10", six.best(4), 34);
        due("ways(4)", six.ways(4), 24);
    }

    private static void worthNothing() {
        says("those with most WORTH");
        Counted none = new Counted();
        for (int n = 0; n < 5; n++) {
            due("no THINGS, best(" + n + ")", none.best(n), 0);
            due("no THINGS, ways(" + n + ")", none.ways(n), 1);
        }
        first(none, 0);
        first(none, 4, 0, 0, 0, 0);
        Counted copper = with(1, 0, 0, 0);
        due("copper, best(4)", copper.best(4), 0);
        due("copper, ways(4)", copper.ways(4), 16);
        first(copper, 4, 0, 0, 0, 0);
        Counted six = with(1, 0, 0, 0, 1, 0, 0, 0, 1, 0, 0, 0, 1, 0, 0, 0, 1, 0, 0, 0, 1, 0, 0, 0);
        due("six of copper, ways(4): all of them", six.ways(4), 7 * 7 * 7 * 7);
        allIrons(copper, 0);
        rules(copper, "copper fold;");
        due("a fold is WORTH 1 each", copper.best(4), 4);
        due("each time", copper.ways(4), 1);
        first(copper, 4, 1, 1, 1, 1);
        copper.iron(1, 1);
        due("but at SIGH 1", copper.best(4), 3);
        due("there it may be told or not", copper.ways(4), 2);
        first(copper, 4, 1, 0, 1, 1);
        Counted anew = linen(2);
        first(anew, 2, 1, 2);
        anew.remake(0, 1);
        anew.remake(1, 1);
        first(anew, 2, 0, 0);
        // To wait is worth more: STEAM 0 in WASH 0, in WASH 1 linen of 48 PAYS 8; in WASH 0 only that of 0 PAYS.
        Counted wait = with(2, 0, 0, 0, 4, 47, 0, 0);
        irons(wait, 0, 4);
        wait.ends(2);
        // WASH 0: nothing PAYS. WASH 1: the coat (2) 4 and 1; linen (47) NEEDS 3: 7 and 1.
        due("in WASH 1", wait.best(2), 8);
        first(wait, 2, 0, 2);
        due("in WASH 0 any", wait.ways(2), 3);
    }

    private static void lesserAct() {
        says("the FIRST of these is that with the lesser ACT where they are unlike first");
        // Both PLANS are WORTH the same; 0 goes ahead of 1: pressed in WASH 0 for 4 and undone; or in WASH 1 for 4 and undone.
        Counted x = with(4, 0, 0, 0);
        irons(x, 3, 3);
        x.ends(2);
        due("4 once, for BULK 25 NEEDS 2", x.best(2), 4);
        due("in either, or told in both", x.ways(2), 3);
        first(x, 2, 0, 1);
        // Told first 2 or 1: as ACTS (1, 2), (2, 1), the FIRST is (1, 2).
        first(linen(2), 2, 1, 2);
        Counted y = linen(3);
        y.change(0, 4, 1);
        first(y, 2, 2, 3);
    }

    private static void nOfPlans() {
        says("WORTH of the BEST PLANS of n (0 to 4). BAD.");
        Counted x = linen(2);
        refused(BAD, x, ints(-1, 5, LOW, HIGH), x::best);
        says("The i-th (0 to 3) ACT of the FIRST of them. BAD; NONE: it has not so many.");
        refused(BAD, x, ints(-1, 5, LOW, HIGH), v -> x.ith(v, 0));
        refused(BAD, x, ints(-1, 4, LOW, HIGH), v -> x.ith(4, v));
        refused(NONE, x, ints(2, 3), v -> x.ith(2, v));
        refused(NONE, x, ints(0, 1, 2, 3), v -> x.ith(0, v));
        refused(BAD, x, ints(-1, 4), v -> x.ith(0, v));
        says("How many of them there are. BAD.");
        refused(BAD, x, ints(-1, 5, LOW, HIGH), x::ways);

        says("n WASHES (fewer, if it is OVER)");
        x.ends(2);
        int[] best = {0, 5, 11, 11, 11};
        int[] ways = {1, 2, 2, 2, 2};
        for (int n = 0; n < 5; n++) {
            due("best(" + n + ") of END 2", x.best(n), best[n]);
            due("ways(" + n + ") of END 2", x.ways(n), ways[n]);
        }
        first(x, 3, 1, 2);
        first(x, 4, 1, 2);
        x.wash();
        due("one is left", x.best(4), 6);
        first(x, 4, 2);
        due("prove(4)", x.prove(4), 1);
        x.wash();
        for (int n = 0; n < 5; n++) {
            due("OVER: best(" + n + ")", x.best(n), 0);
            due("OVER: ways(" + n + ")", x.ways(n), 1);
            first(x, n);
        }
        due("OVER: prove(4)", x.prove(4), 0);
        Counted y = linen(1);
        y.ends(16);
        for (int w = 0; w < 15; w++) y.wash();
        due("of WASH 15", y.best(4), 1);
        due("any ACT", y.ways(4), 2);
        first(y, 4, 0);
    }

    private static void note() {
        says("NOTE by n, a set of THINGS: the fewest ACTS that aren't 0 in a PLAN of n behind which each of them is FLAT.", "NOTE by n (0 to 4), a set of THINGS (of such as there are). BAD; NONE.");
        Counted x = linen(3);
        x.thing(1, 0, 0, 0);
        int[][] told = {
            // n, THINGS, and the fewest
            {0, 0, 0}, {1, 0, 0}, {4, 0, 0}, {0, 1, NONE}, {0, 8, NONE}, {1, 1, 1}, {1, 2, 1}, {1, 4, 1}, {1, 3, NONE}, {2, 3, 2}, {2, 5, 2}, {2, 7, NONE}, {3, 7, 3},
            {4, 7, 3}, {4, 1, 1}, {4, 6, 2}, {4, 8, NONE}, {4, 15, NONE}, {4, 9, NONE},
        };
        asks(x, () -> {
            for (int[] t : told) due("note(" + t[0] + ", " + t[1] + ")", x.note(t[0], t[1]), t[2]);
        });
        refused(BAD, x, ints(-1, 5, LOW, HIGH), v -> x.note(v, 1));
        refused(BAD, x, ints(-1, 16, 17, 32, 64, LOW, HIGH), v -> x.note(2, v));
        x.change(0, 4, 1);
        due("FLAT now", x.note(0, 1), 0);
        due("FLAT now", x.note(4, 1), 0);
        due("one more", x.note(1, 3), 1);
        due("two more", x.note(2, 7), 2);
        due("two more of one WASHE", x.note(1, 7), NONE);
        x.ends(1);
        due("fewer", x.note(4, 7), NONE);
        due("fewer", x.note(4, 3), 1);
        x.wash();
        due("OVER", x.note(4, 3), 0);
        due("OVER", x.note(4, 7), NONE);
        due("OVER", x.note(4, 0), 0);
        Counted none = new Counted();
        due("of no THINGS", none.note(4, 0), 0);
        refused(BAD, none, ints(1, -1), v -> none.note(4, v));
        Counted six = linen(6);
        due("all of six", six.note(4, 63), NONE);
        due("the sixth", six.note(1, 32), 1);
        due("four of six", six.note(4, 60), 4);
        refused(BAD, six, ints(64, -1), v -> six.note(4, v));
        noteWhatIsUndone();
    }

    private static void noteWhatIsUndone() {
        Counted x = linen(2);
        irons(x, 3, 4);
        due("undone at once", x.note(1, 1), NONE);
        due("so in WASH 1", x.note(2, 1), 1);
        due("both: one is pressed in WASH 0 and undone", x.note(2, 3), NONE);
        x.change(1, 4, 1);
        due("the second is undone instead", x.note(1, 1), 1);
        due("it is FLAT now", x.note(0, 2), 0);
        due("but undone behind WASH 0, whoever is told", x.note(1, 2), NONE);
        due("BULK 25 NEEDS 2, PRESS is 4 in WASH 1", x.note(2, 2), 1);
        due("first the first, then the second", x.note(2, 3), 2);
        // A fold is an ACT too: the coat must be folded twice ahead of being pressed.
        Counted y = with(2, 0, 0, 0);
        rules(y, "coat if crease < 2 fold;");
        due("two folds, and a press", y.note(4, 1), 3);
        due("not in two WASHES", y.note(2, 1), NONE);
    }

    private static void bars() {
        says("BAR: the least of them that is so behind no PLAN of n.", "BAR likewise. BAD; NONE: each is so behind some.");
        Counted x = with(4, 0, 0, 0, 1, 0, 0, 0, 4, 0, 0, 0, 1, 0, 0, 0);
        allIrons(x, 0);
        int[][] told = {
            {0, 0, NONE}, {4, 0, NONE}, {0, 1, 0}, {0, 15, 0}, {0, 12, 2}, {0, 14, 1}, {0, 8, 3}, {1, 1, NONE}, {1, 5, NONE}, {4, 5, NONE}, {1, 15, 1}, {4, 15, 1}, {4, 13, 3}, {4, 8, 3}, {4, 2, 1},
        };
        asks(x, () -> {
            for (int[] t : told) due("bars(" + t[0] + ", " + t[1] + ")", x.bars(t[0], t[1]), t[2]);
        });
        refused(BAD, x, ints(-1, 5, LOW, HIGH), v -> x.bars(v, 1));
        refused(BAD, x, ints(-1, 16, 17, 32, LOW, HIGH), v -> x.bars(2, v));
        x.change(1, 4, 1);
        due("FLAT now", x.bars(0, 2), NONE);
        due("copper is FLAT now, linen not", x.bars(0, 15), 0);
        due("the other copper", x.bars(4, 15), 3);
        irons(x, 3, 0);
        // The greatest that is FLAT is undone in WASH 0: copper, if not linen 2 is pressed.
        due("undone in one PLAN, not in another", x.bars(1, 2), NONE);
        due("linen 2 is undone itself", x.bars(1, 4), 2);
        x.ends(1);
        due("fewer", x.bars(4, 4), 2);
        x.wash();
        due("OVER", x.bars(4, 1), NONE);
        due("OVER", x.bars(4, 6), 1);
        Counted none = new Counted();
        due("of no THINGS", none.bars(4, 0), NONE);
        refused(BAD, none, ints(1, -1), v -> none.bars(4, v));
        Counted six = linen(6);
        due("each of six in one WASHE, each by itself", six.bars(1, 63), NONE);
        refused(BAD, six, ints(64, -1), v -> six.bars(4, v));
    }

    private static void games() {
        says("GAME of n: two in turn, ahead of n WASHES (till it is OVER) each an ACT (also 0); the first one wants as much WORTH as can be, the other one as little. VALUE: that, if both play as well as they can.",
            "VALUE of a GAME of n (1 to 4). BAD.", "The least ACT by which who begins comes to it. BAD; NONE: it is OVER.");
        // 5; then the other one tells none: 1; then 4 and 2; then 2 whatever is told.
        Counted x = linen(2);
        int[] value = {0, 5, 6, 12, 14};
        asks(x, () -> {
            for (int n = 1; n < 5; n++) {
                due("game(" + n + ")", x.game(n), value[n]);
                due("play(" + n + ")", x.play(n), 1);
            }
        });
        refused(BAD, x, ints(0, -1, 5, LOW, HIGH), x::game);
        refused(BAD, x, ints(0, -1, 5, LOW, HIGH), x::play);
        x.ends(2);
        due("till it is OVER", x.game(4), 6);
        due("till it is OVER", x.play(4), 1);
        x.wash();
        due("one is left", x.game(4), 6);
        due("the second is told", x.play(4), 2);
        x.wash();
        for (int n = 1; n < 5; n++) {
            due("OVER: game(" + n + ")", x.game(n), 0);
            due("OVER: play(" + n + ")", x.play(n), NONE);
        }
        due("BAD goes ahead of NONE", x.play(0), BAD);
        due("BAD goes ahead of NONE", x.play(5), BAD);

        due("play(1) ahead of any game(1)", linen(2).play(1), 1);
        due("play(1) of what PAYS nothing yet but in the second", secondAlone().play(1), 2);
        Counted none = new Counted();
        due("no THINGS: game(4)", none.game(4), 0);
        due("no THINGS: play(4)", none.play(4), 0);
        Counted copper = with(1, 0, 0, 0);
        due("nothing helps", copper.game(3), 0);
        due("so the least ACT", copper.play(3), 0);
        otherOneHurts();
    }

    private static Counted secondAlone() {
        return with(1, 0, 0, 0, 4, 0, 0, 0);
    }

    private static void otherOneHurts() {
        // Linen of CREASE 1 folds (WORTH 0, SIGH 1) in WASH 0 and 1; in WASH 2, at STEAM 0, it is pressed unless its CREASE is 2.
        Counted x = with(4, 0, 1, 0);
        irons(x, 1, 1, 0, 0);
        rules(x, "linen if wash < 2 fold;");
        due("4 and 1 in WASH 2, if none tells it ahead", x.best(3), 5);
        due("but the other one does, by a fold", x.game(3), 0);
        due("so the least ACT", x.play(3), 0);
        x.wash();
        due("from WASH 1 on the other one has WASH 2, and tells none", x.game(2), 0);
        due("of three the first one has WASH 1 and 3: BULK 3 NEEDS 0, 4 and 1", x.game(3), 5);
        due("it must not fold", x.play(3), 0);
        x.wash();
        due("from WASH 2 on it is pressed", x.game(1), 5);
        due("it is told", x.play(1), 1);
        // One WASHE is left, whatever n is: linen of BULK 48 PAYS 8.
        Counted y = with(4, 0, 0, 0, 4, 48, 0, 0);
        irons(y, 8);
        y.ends(1);
        due("8 and 1", y.game(4), 9);
        due("the second", y.play(4), 2);
    }

    private static void rows() {
        says("ROWS of the FIRST of the BEST PLANS: for each WASHE (ACT, what it is WORTH, THINGS that are FLAT behind it, as a set).",
            "ROWS of the FIRST of the BEST PLANS of n (0 to 4): how many. BAD.", "Of ROW k: what = 0 ACT, 1 WORTH, 2 those FLAT. -9: there is none such, another what.");
        Counted x = linen(2);
        refused(-9, x, ints(0, 1, -1, HIGH), v -> x.row(v, 0));
        int[][] due = {{1, 5, 1}, {2, 6, 3}, {0, 2, 3}, {0, 2, 3}};
        for (int n = 4; n >= 0; n--) {
            due("prove(" + n + ")", x.prove(n), n);
            due("many(4)", x.many(4), n);
            for (int k = 0; k < 4; k++) for (int w = 0; w < 3; w++) due("row(" + k + ", " + w + ") of " + n, x.row(k, w), k < n ? due[k][w] : -9);
        }
        x.prove(4);
        refused(BAD, x, ints(-1, 5, LOW, HIGH), x::prove);
        refused(-9, x, ints(-1, 4, LOW, HIGH), v -> x.row(v, 0));
        refused(-9, x, ints(-1, 3, LOW, HIGH), v -> x.row(0, v));
        due("WASH is as it was", x.state(0), 0);
        due("none is FLAT", x.state(4), 0);
        // What is undone shows: pressed in WASH 1 of SIGH 3.
        Counted y = with(4, 0, 0, 0, 4, 0, 0, 0);
        irons(y, 3, 3);
        y.ends(2);
        // The first: 4, undone; the second: 4, undone. Or one waits. Most: 4 and 4 of (1, 2); or (2, 1).
        due("two", y.prove(4), 2);
        int[][] undone = {{1, 4, 0}, {2, 4, 0}};
        for (int k = 0; k < 2; k++) for (int w = 0; w < 3; w++) due("row(" + k + ", " + w + ")", y.row(k, w), undone[k][w]);

        says("It becomes v: what it was. -9 likewise.");
        for (int w = 0; w < 3; w++) {
            int what = w;
            due("the first ROW", x.alterRow(0, w, LOW), due[0][w]);
            due("the last ROW", x.alterRow(3, w, HIGH), due[3][w]);
            due("as altered", x.row(0, w), LOW);
            due("as altered", x.alterRow(3, w, -1), HIGH);
            due("as altered", x.row(3, w), -1);
            refused(-9, x, ints(-1, 4, LOW, HIGH), v -> x.alterRow(v, what, 0));
        }
        refused(-9, x, ints(-1, 3, LOW, HIGH), v -> x.alterRow(3, v, 0));
        x.prove(1);
        refused(-9, x, ints(1, 3), v -> x.alterRow(v, 0, 0));
        due("the others stay", x.row(0, 1), 5);
    }

    private static void reader() {
        says("THE READER takes ROWS as a PLAN, from how it is now: right is one whose ACT is one, if it isn't OVER, the others as they are then.",
            "THE READER takes ROWS as such: 0 all is right; else the first ROW that isn't, and 1 more.");
        Counted x = linen(2);
        due("no ROWS", x.judge(), 0);
        x.prove(4);
        asks(x, () -> due("right", x.judge(), 0));
        int[] right = {1, 5, 1, 2, 6, 3, 0, 2, 3, 0, 2, 3};
        for (int k = 3; k >= 0; k--) {
            for (int w = 1; w < 3; w++) {
                int was = right[3 * k + w];
                for (int v : ints(was - 1, was + 1, LOW, HIGH)) {
                    x.alterRow(k, w, v);
                    due("ROW " + k + ", " + w + " is " + v, x.judge(), k + 1);
                }
                x.alterRow(k, w, was);
            }
        }
        // Both are FLAT ahead of the third: any ACT is as good, but 3 is none.
        for (int v : ints(1, 2)) {
            x.alterRow(2, 0, v);
            due("another ACT as good", x.judge(), 0);
        }
        for (int v : ints(3, -1, LOW, HIGH)) {
            x.alterRow(2, 0, v);
            due(v + " is no ACT", x.judge(), 3);
        }
        x.alterRow(3, 0, 9);
        due("two are wrong: the first", x.judge(), 3);
        x.alterRow(0, 0, 0);
        due("another ACT, WORTH 0", x.judge(), 1);
        x.alterRow(0, 0, 2);
        due("another ACT, as much WORTH, another one FLAT", x.judge(), 1);
        x.prove(4);
        x.ends(4);
        due("as many WASHES as ROWS", x.judge(), 0);
        x.ends(3);
        due("OVER ahead of the fourth", x.judge(), 4);
        x.ends(1);
        due("OVER ahead of the second", x.judge(), 2);
        x.wash();
        due("OVER", x.judge(), 1);
        x.ends(16);
        due("from how it is now", x.judge(), 1);
        x.anew();
        x.thing(4, 0, 0, 0);
        due("one THING more: all are ACTS still", x.judge(), 0);
        x.prove(0);
        due("no ROWS again", x.judge(), 0);
        x.wash();
        x.prove(2);
        due("ROWS from WASH 1 on", x.judge(), 0);
        due("the second is told", x.row(0, 0), 2);
    }

    public static void main(String[] args) {
        plans();
        worthNothing();
        lesserAct();
        nOfPlans();
        note();
        bars();
        games();
        rows();
        reader();
        done("PlansTest");
    }
}
