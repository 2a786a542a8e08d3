/** The first lines of 'Terms', which hold for all calls: refusals, their order, what they change; then each number's range, call by call. */
public final class TermsTest extends Told {
    interface Call {
        int of(Counted x, int v);
    }

    /** A laundry in which there is some of all: five THINGS, RULES, REPORTS, ROWS, a TAPE, SHEETS, SHELVES, a TRACE, and one that is kept. */
    private static Counted full() {
        Counted x = with(2, 30, 3, 1, 4, 40, 2, 0, 5, 50, 5, 2, 3, 20, 4, 1);
        rules(x, "hat leave; coat if wash > 3 fold;");
        x.report(2, 0, 1, 90);
        x.keep();
        x.thing(1, 60, 6, 3);
        x.iron(1, 14);
        x.board(1, 0, 3);
        x.board(2, 1, 7);
        x.report(3, 1, 0, 16);
        x.wash();
        x.wash();
        x.seed(4711);
        x.prove(4);
        x.sheet(0, 0, 40);
        x.write(0, 1, 2);
        x.write(0, 39, 1);
        x.sheet(1, 2, 40);
        x.shelf(0, 0, 2);
        x.shelf(1, 1, 1);
        x.act(0, 3, 9);
        feed(x, "thing leave;");
        return x;
    }

    private static void constants() {
        says("public static final int BAD = -1, FULL = -2, NONE = -3, STATE = -4;", "BAD (-1)", "FULL (-2); NONE (-3); STATE (-4)");
        due("BAD", IronedFlat.BAD, -1);
        due("FULL", IronedFlat.FULL, -2);
        due("NONE", IronedFlat.NONE, -3);
        due("STATE", IronedFlat.STATE, -4);
        says("-11 nothing where something is asked, -12 a place outside, -13 a thing of another sort or kind, -14 a size below 0, -15 parted by 0.");
        Counted x = full();
        refused(-11, x, v -> x.item(2, 0, 0));
        refused(-11, x, v -> x.taken(2, 0));
        refused(-12, x, v -> x.item(0, 0, 40));
        refused(-12, x, v -> x.write(0, -1, 0));
        refused(-13, x, v -> x.item(0, 2, 0));
        refused(-13, x, v -> x.taken(0, 1));
        refused(-14, x, v -> x.sheet(0, 0, -1));
        x.change(2, 3, 4);
        x.remake(2, 4);
        due("2 - 4 + 2 is 0", x.act(0, 2, 1), -15);
    }

    private static void newObject() {
        says("No THINGS, RULES, REPORTS; nothing is kept.");
        Counted x = new Counted();
        due("THINGS", x.many(0), 0);
        due("no first THING", x.thingOf(0, 0), BAD);
        due("RULES", x.many(1), 0);
        due("REPORTS", x.many(3), 0);
        due("REPORTS", x.forget(), 0);
        refused(NONE, x, v -> x.again());
        due("bytes of THE TAPE", x.many(5), 0);
        due("ROWS", x.many(4), 0);
        due("bodies of THE TRACE", x.many(6), 0);
        due("each has its own", with(1, 0, 0, 0).many(0) + new Counted().many(0), 1);
    }

    private static void theFirstNamed() {
        says("of several the first named");
        Counted six = with(1, 0, 0, 0, 1, 0, 0, 0, 1, 0, 0, 0, 1, 0, 0, 0, 1, 0, 0, 0, 1, 0, 0, 0);
        due("thing: FULL", six.thing(1, 0, 0, 0), FULL);
        due("thing: BAD ahead of FULL", six.thing(0, 0, 0, 0), BAD);
        due("thing: BAD ahead of FULL", six.thing(1, 100, 0, 0), BAD);
        due("thing: BAD ahead of FULL", six.thing(1, 0, 10, 0), BAD);
        due("thing: BAD ahead of FULL", six.thing(1, 0, 0, 6), BAD);
        due("when: BAD ahead of NONE", six.when(6), BAD);
        due("fat: BAD ahead of NONE", six.fat(6), BAD);
        due("least: BAD ahead of NONE", six.least(6), BAD);
        due("note: BAD ahead of NONE", six.note(5, 1), BAD);
        due("note: BAD ahead of NONE", six.note(4, 64), BAD);
        due("bars: BAD ahead of NONE", six.bars(5, 0), BAD);
        due("ith: BAD ahead of NONE", six.ith(0, 4), BAD);
        due("ith: BAD ahead of NONE", six.ith(5, 0), BAD);
        six.ends(1);
        six.wash();
        due("play: NONE", six.play(1), NONE);
        due("play: BAD ahead of NONE", six.play(0), BAD);
        due("ends: BAD ahead of STATE", six.ends(0), BAD);
        Counted x = new Counted();
        feed(x, " ".repeat(200));
        due("feed: FULL", x.feed(0, 8), FULL);
        due("feed: BAD ahead of FULL", x.feed(0, 9), BAD);
        due("feed: BAD ahead of FULL", x.feed(0, 0), BAD);
        for (int i = 0; i < 6; i++) x.report(0, 0, 82, 99);
        due("report: FULL", x.report(0, 0, 0, 0), FULL);
        due("report: BAD ahead of FULL", x.report(16, 0, 0, 0), BAD);
        due("report: BAD ahead of FULL", x.report(0, 0, 1, 0), BAD);
        due("lone: NONE", x.lone(1), NONE);
        due("lone: BAD ahead of NONE", x.lone(4), BAD);
        x.sheet(1, 1, 3);
        due("sheet: BAD ahead of -14", x.sheet(4, 0, -1), BAD);
        due("sheet: BAD ahead of -14", x.sheet(0, 5, -1), BAD);
        due("write: BAD ahead of -11", x.write(4, 99, 0), BAD);
        due("write: -11 ahead of -12", x.write(0, 99, 0), NOTHING);
        due("item: BAD ahead of -13, -11, -12", x.item(0, 5, 99), BAD);
        due("item: BAD ahead of -13, -12", x.item(1, 5, 99), BAD);
        due("item: -11 ahead of -12", x.item(0, 0, 99), NOTHING);
        due("item: -13 ahead of -12", x.item(1, 0, 99), OTHER_SORT);
        due("goAll: BAD ahead of -13, -12", x.goAll(1, 99, 21), BAD);
        due("goAll: BAD ahead of -11, -12", x.goAll(0, 99, -1), BAD);
        due("goAll: -13 ahead of -12", x.goAll(1, 99, 1), OTHER_SORT);
        due("goAll: -11 ahead of -12", x.goAll(0, 99, 1), NOTHING);
        due("wouldBe: BAD ahead of -13, -12", x.wouldBe(1, 99, 21), BAD);
        due("wouldBe: BAD ahead of -11, -12", x.wouldBe(0, 99, -1), BAD);
        due("wouldBe: -13 ahead of -12", x.wouldBe(1, 99, 1), OTHER_SORT);
        due("wouldBe: -11 ahead of -12", x.wouldBe(0, 99, 1), NOTHING);
        due("taken: BAD ahead of -11", x.taken(0, 6), BAD);
        x.shelf(1, 1, 1);
        due("taken: BAD ahead of -13", x.taken(1, 9), BAD);
    }

    private static void nothingIsChanged() {
        says("Answers below 0, where not told otherwise, are refusals; such a call changes nothing (but that THE TAPE is used up by rules())");
        Counted x = full();
        x.rules();
        feed(x, "thing press; foo");
        String before = look(x);
        int will = x.thingOf(3, 9);
        due("a FAULT", x.rules(), -113);
        due("THE TAPE is used up", x.many(5), 0);
        due("THE RULES are not", x.many(1), 1);
        due("they tell as before", x.thingOf(3, 9), will);
        feed(x, "thing press; foo");
        due("all else is as it was", look(x).equals(before) ? 1 : 0, 1);
        says("Answers below 0, where not told otherwise, are refusals");
        Counted y = new Counted();
        y.seed(-1);
        due("z may be as low", y.seed(-4), -1);
        due("and was changed", y.seed(0), -4);
        y.sheet(0, 2, 1);
        y.write(0, 0, -13);
        due("an item may be as low", y.item(0, 2, 0), -13);
        says("Sets are told by bits.");
        Counted z = with(4, 0, 0, 0, 1, 0, 9, 1, 4, 0, 0, 0);
        due("0 and 2 CLOSE", z.piles(2), 5);
        due("0 and 2 pressed", z.left(2, 1), 5);
        z.change(1, 4, 1);
        due("1 FLAT", z.state(4), 2);
        z.prove(1);
        due("0 and 1 FLAT", z.row(0, 2), 3);
        due("0 and 2 in 2 ACTS", z.note(2, 5), 2);
        due("of 0 and 2 none is barred", z.bars(1, 5), NONE);
    }

    private static void asIfUnasked() {
        says("What is asked changes nothing, if not told.");
        Counted x = full();
        asks(x, () -> {
            for (int k = 0; k < 5; k++) {
                for (int what = 0; what < 10; what++) x.thingOf(k, what);
                x.when(k);
                x.creaseFor(k);
                x.boardFor(k);
                x.fat(k);
                x.least(k);
                x.piles(k);
            }
            for (int i = 0; i < 7; i++) {
                x.state(i);
                x.many(i);
            }
            x.boardOf(1, 0);
            x.on(16);
            x.left(16, 0);
            x.left(16, 1);
            x.piles(-1);
            due("best", x.best(4) >= 0 ? 1 : 0, 1);
            x.ith(4, 3);
            x.ways(4);
            x.note(4, 3);
            x.bars(4, 31);
            x.game(4);
            x.play(4);
            x.lone(0);
            x.lone(3);
            x.liar();
            x.times(40, 20);
            x.row(0, 0);
            x.judge();
            x.item(0, 0, 1);
            x.wouldBe(0, 1, 2);
            x.taken(0, 4);
            x.trace(0);
        });
    }

    private static void calls() {
        says("An object is used for at most 512 calls after it has been made");
        Counted x = with(2, 12, 0, 0);
        for (int i = 2; i <= 510; i++) x.seed(i);
        due("the 511th", x.seed(511), 510);
        due("the 512th", x.wash(), 6);
        due("calls left", x.callsLeft(), 0);
        Counted texts = new Counted();
        for (int i = 0; i < 25; i++) {
            due("bytes", feed(texts, "thing if 1=1 leave;".repeat(8)), 152);
            due("RULES", texts.rules(), 8);
        }
        Counted sheets = new Counted();
        for (int i = 0; i < 511; i++) sheets.sheet(i % 4, i % 5, 40);
        due("the 512th", sheets.item(2, 0, 39), 0);
        Counted plans = with(2, 12, 0, 0, 2, 24, 0, 1, 3, 30, 0, 2, 4, 40, 0, 3, 5, 50, 0, 4, 1, 60, 0, 5);
        int best = plans.best(4);
        for (int i = plans.callsLeft(); i > 1; i--) plans.prove(4);
        due("the 512th", plans.best(4), best);
    }

    /** The least and the greatest are not refused so, one beyond either, and far beyond, are; each in a laundry of its own. */
    private static void range(String what, int refusal, int least, int most, Call call) {
        for (int v : ints(least, most)) due(what + " of " + v + " is refused", call.of(full(), v) == refusal ? 1 : 0, 0);
        Counted x = full();
        refused(refusal, x, ints(least - 1, most + 1, LOW, HIGH), v -> call.of(x, v));
    }

    private static void rangesOfTheLaundry() {
        says("A THING of a KIND 1 to 5: its number. BAD; FULL.");
        range("KIND", BAD, 1, 5, (x, v) -> x.thing(v, 0, 0, 0));
        range("BULK", BAD, 0, 99, (x, v) -> x.thing(1, v, 0, 0));
        range("CREASE", BAD, 0, 9, (x, v) -> x.thing(1, 0, v, 0));
        range("BOARD", BAD, 0, 5, (x, v) -> x.thing(1, 0, 0, v));
        says("Of a THING: what = 0 KIND, 1 BULK, 2 CREASE, 3 BOARD, 4 1 if it is FLAT, else 0, 5 what it SWELLS now (FLAT or not), 6 what it NEEDS now, 7 what it PAYS now, 8 1 if it MAY be pressed now, else 0, 9 WILL as all is now (0 press, 1 leave, 2 fold). BAD.");
        range("k", BAD, 0, 4, (x, v) -> x.thingOf(v, 9));
        range("what", BAD, 0, 9, (x, v) -> x.thingOf(0, v));
        says("BULK (what 1), CREASE (2), BOARD (3), FLAT (4: 0, 1; BULK stays) of a THING becomes v: what it was. BAD.");
        range("k", BAD, 0, 4, (x, v) -> x.change(v, 1, 0));
        range("what", BAD, 1, 4, (x, v) -> x.change(0, v, 0));
        range("BULK", BAD, 0, 99, (x, v) -> x.change(0, 1, v));
        range("CREASE", BAD, 0, 9, (x, v) -> x.change(0, 2, v));
        range("BOARD", BAD, 0, 5, (x, v) -> x.change(0, 3, v));
        range("FLAT", BAD, 0, 1, (x, v) -> x.change(0, 4, v));
        says("A THING becomes one of another KIND (1 to 5): the KIND that it was. BAD.");
        range("k", BAD, 0, 4, (x, v) -> x.remake(v, 1));
        range("KIND", BAD, 1, 5, (x, v) -> x.remake(0, v));
        says("The IRON of a WASH (0 to 15) becomes v (0 to 15): what it was. BAD.");
        range("WASH", BAD, 0, 15, (x, v) -> x.iron(v, 0));
        range("v", BAD, 0, 15, (x, v) -> x.iron(0, v));
        says("The WEIGHT of a BOARD (what 0), its ROPE (1) becomes v: what it was. BAD.");
        range("BOARD", BAD, 0, 5, (x, v) -> x.board(v, 1, 0));
        range("what", BAD, 0, 1, (x, v) -> x.board(0, v, 0));
        range("WEIGHT", BAD, 0, 9, (x, v) -> x.board(0, 0, v));
        range("ROPE", BAD, 0, 9, (x, v) -> x.board(0, 1, v));
        says("Of a BOARD: what = 0 WEIGHT, 1 ROPE. BAD.");
        range("BOARD", BAD, 0, 5, (x, v) -> x.boardOf(v, 1));
        range("what", BAD, 0, 1, (x, v) -> x.boardOf(0, v));
        says("END becomes v: what it was. BAD; STATE: v is below WASH.");
        range("END", BAD, 1, 16, Counted::ends);
        says("What = 0 WASH, 1 END, 2 SCORE, 3 1 if it is OVER, else 0, 4 THINGS that are FLAT, as a set, 5 the IRON of WASH, 6 BULK of all together. BAD.");
        range("what", BAD, 0, 6, Counted::state);
        says("n bytes (1 to 8) come to THE TAPE, the lowest of eight first: how many it has. BAD; FULL: more than 200.");
        range("n", BAD, 1, 8, (x, v) -> x.feed(0, v));
    }

    private static void rangesOfWhatIsAsked() {
        says("What n (0 to 16) WASHES of THE REST (fewer, if it is OVER) are WORTH. BAD.");
        range("n", BAD, 0, 16, Counted::on);
        says("The first WASH of THE REST behind which a THING is FLAT. BAD; NONE (also if it is now).");
        range("k", BAD, 0, 4, Counted::when);
        says("CREASE with which a THING makes THE REST WORTH most; of several the least. BAD.");
        range("k", BAD, 0, 4, Counted::creaseFor);
        says("BOARD likewise. BAD.");
        range("k", BAD, 0, 4, Counted::boardFor);
        says("FAT (WASH itself, if BULK is 60 or more now). BAD; NONE.");
        range("k", BAD, 0, 4, Counted::fat);
        says("LEAST of a THING. BAD; NONE: it is FLAT, or with none.");
        range("k", BAD, 0, 4, Counted::least);
        says("LEFT by n (0 to 16): what 0 BULK of all together, 1 those that are FLAT, as a set. BAD.");
        range("n", BAD, 0, 16, (x, v) -> x.left(v, 0));
        range("what", BAD, 0, 1, (x, v) -> x.left(0, v));
        says("PILES: what -1 how many, 0 .. 5 THINGS of that THING's PILE, as a set (0: it is FLAT). BAD: also no such THING.");
        range("what", BAD, -1, 4, Counted::piles);
        says("WORTH of the BEST PLANS of n (0 to 4). BAD.");
        range("n", BAD, 0, 4, Counted::best);
        says("The i-th (0 to 3) ACT of the FIRST of them. BAD; NONE: it has not so many.");
        range("n", BAD, 0, 4, (x, v) -> x.ith(v, 0));
        range("i", BAD, 0, 3, (x, v) -> x.ith(4, v));
        says("How many of them there are. BAD.");
        range("n", BAD, 0, 4, Counted::ways);
        says("NOTE by n (0 to 4), a set of THINGS (of such as there are). BAD; NONE.");
        range("n", BAD, 0, 4, (x, v) -> x.note(v, 1));
        range("THINGS", BAD, 0, 31, (x, v) -> x.note(4, v));
        says("BAR likewise. BAD; NONE: each is so behind some.");
        range("n", BAD, 0, 4, (x, v) -> x.bars(v, 1));
        range("THINGS", BAD, 0, 31, (x, v) -> x.bars(4, v));
        says("VALUE of a GAME of n (1 to 4). BAD.");
        range("n", BAD, 1, 4, Counted::game);
        says("The least ACT by which who begins comes to it. BAD; NONE: it is OVER.");
        range("n", BAD, 1, 4, Counted::play);
        says("A REPORT: its number. BAD: also MOST below LEAST; FULL.");
        range("k", BAD, 0, 15, (x, v) -> x.report(v, 0, 0, 99));
        range("asked", BAD, 0, 1, (x, v) -> x.report(0, v, 0, 16));
        range("LEAST of BULK", BAD, 0, 99, (x, v) -> x.report(0, 0, v, 99));
        range("MOST of BULK", BAD, 0, 99, (x, v) -> x.report(0, 0, 0, v));
        range("MOST of BULK from 7 on", BAD, 7, 99, (x, v) -> x.report(0, 0, 7, v));
        range("LEAST of PAYING", BAD, 0, 16, (x, v) -> x.report(0, 1, v, 16));
        range("MOST of PAYING", BAD, 0, 16, (x, v) -> x.report(0, 1, 0, v));
        range("MOST of PAYING from 7 on", BAD, 7, 16, (x, v) -> x.report(0, 1, 7, v));
        says("LONE THINGS that FIT: what = 0 how many;");
        range("what", BAD, 0, 3, Counted::lone);
        says("How many of n (1 to 40) times all WASHES yet by LOT, each from how it is now (z goes on from one to the next), are WORTH v (0 to 999) or more");
        range("n", BAD, 1, 40, (x, v) -> x.times(v, 0));
        range("v", BAD, 0, 999, (x, v) -> x.times(1, v));
        says("ROWS of the FIRST of the BEST PLANS of n (0 to 4): how many. BAD.");
        range("n", BAD, 0, 4, Counted::prove);
        says("-9: there is none such, another what.", "-9 likewise.");
        range("k of row", -9, 0, 3, (x, v) -> x.row(v, 0));
        range("what of row", -9, 0, 2, (x, v) -> x.row(3, v));
        range("k of alterRow", -9, 0, 3, (x, v) -> x.alterRow(v, 0, 0));
        range("what of alterRow", -9, 0, 2, (x, v) -> x.alterRow(3, v, 0));
    }

    private static void rangesOfTheHost() {
        says("A SHEET becomes a row of n of a sort, all 0, or missing (sort -1; n counts nothing then): 1. BAD: no such SHEET, sort, n above 40; -14.");
        range("SHEET", BAD, 0, 3, (x, v) -> x.sheet(v, 0, 1));
        range("sort", BAD, -1, 4, (x, v) -> x.sheet(0, v, 1));
        says("Item i becomes v, narrowed to its sort (booleans: whether it is not 0): 1. BAD: no such SHEET; -11; -12.");
        range("SHEET", BAD, 0, 3, (x, v) -> x.write(v, 0, 0));
        range("i", OUTSIDE, 0, 39, (x, v) -> x.write(0, v, 0));
        says("Item i, taken for a sort (0 to 4; of longs the lowest 32 bits; of booleans 1, 0). BAD: no such SHEET, sort; -13; -11; -12.");
        range("SHEET", BAD, 0, 3, (x, v) -> x.item(v, 0, 0));
        range("sort", BAD, 0, 4, (x, v) -> x.item(0, v, 0));
        range("i", OUTSIDE, 0, 39, (x, v) -> x.item(0, 0, v));
        says("n (0 to 20) items of a SHEET taken for bytes");
        range("SHEET", BAD, 0, 3, (x, v) -> x.goAll(v, 0, 1));
        range("n", BAD, 0, 20, (x, v) -> x.goAll(0, 0, v));
        range("i", OUTSIDE, 0, 39, (x, v) -> x.goAll(0, v, 1));
        says("n (0 to 20) items likewise: what they would be WORTH.");
        range("SHEET", BAD, 0, 3, (x, v) -> x.wouldBe(v, 0, 1));
        range("n", BAD, 0, 20, (x, v) -> x.wouldBe(0, 0, v));
        range("i", OUTSIDE, 0, 39, (x, v) -> x.wouldBe(0, v, 1));
        says("A SHELF holds THING n (what 0), the row of SHEET n (1; nothing, if missing), nothing (2): 1. BAD: no such SHELF, what, thing.");
        range("SHELF", BAD, 0, 3, (x, v) -> x.shelf(v, 2, 0));
        range("what", BAD, 0, 2, (x, v) -> x.shelf(0, v, 0));
        range("THING", BAD, 0, 4, (x, v) -> x.shelf(0, 0, v));
        range("SHEET", BAD, 0, 3, (x, v) -> x.shelf(0, 1, v));
        says("What a SHELF holds taken for a thing of KIND as (0 to 5, or one under it): its number; for a row of sort as - 10 (as 10 to 14): how many items.");
        range("SHELF", BAD, 0, 3, (x, v) -> x.taken(v, 0));
        range("as, a KIND", BAD, 0, 5, (x, v) -> x.taken(0, v));
        range("as, a sort", BAD, 10, 14, (x, v) -> x.taken(1, v));
        says("THE TRACE's i-th body. NONE.");
        range("i", NONE, 0, 7, Counted::trace);
        says("BAD: another what.");
        range("what", BAD, 0, 6, Counted::many);
    }

    public static void main(String[] args) {
        constants();
        newObject();
        theFirstNamed();
        nothingIsChanged();
        asIfUnasked();
        calls();
        rangesOfTheLaundry();
        rangesOfWhatIsAsked();
        rangesOfTheHost();
        done("TermsTest");
    }
}
