import java.util.ArrayList;
import java.util.List;
import java.util.function.ToIntFunction;

/**
 * An IronedFlat whose calls are counted: what it answers behind the 512th is free, so a test that asks more is itself at fault.
 * It remembers its calls, so that a twin of it can be made and looked through without a call being used up here.
 */
final class Counted {
    static final int CALLS = 512;

    private final IronedFlat x = new IronedFlat();
    private final List<ToIntFunction<IronedFlat>> calls = new ArrayList<>();

    Counted twin() {
        Counted other = new Counted();
        for (ToIntFunction<IronedFlat> call : calls) other.answer(call);
        return other;
    }

    int callsLeft() {
        return CALLS - calls.size();
    }

    private int answer(ToIntFunction<IronedFlat> call) {
        if (callsLeft() == 0) throw new IllegalStateException("a test asks for a 513th call; what that answers is free");
        calls.add(call);
        return call.applyAsInt(x);
    }

    int thing(int kind, int bulk, int crease, int board) { return answer(it -> it.thing(kind, bulk, crease, board)); }
    int thingOf(int k, int what) { return answer(it -> it.thingOf(k, what)); }
    int change(int k, int what, int v) { return answer(it -> it.change(k, what, v)); }
    int remake(int k, int kind) { return answer(it -> it.remake(k, kind)); }
    int iron(int wash, int v) { return answer(it -> it.iron(wash, v)); }
    int board(int f, int what, int v) { return answer(it -> it.board(f, what, v)); }
    int boardOf(int f, int what) { return answer(it -> it.boardOf(f, what)); }
    int ends(int v) { return answer(it -> it.ends(v)); }
    int anew() { return answer(it -> it.anew()); }
    int state(int what) { return answer(it -> it.state(what)); }
    int feed(long eight, int n) { return answer(it -> it.feed(eight, n)); }
    int rules() { return answer(it -> it.rules()); }
    int wash() { return answer(it -> it.wash()); }
    int on(int n) { return answer(it -> it.on(n)); }
    int when(int k) { return answer(it -> it.when(k)); }
    int creaseFor(int k) { return answer(it -> it.creaseFor(k)); }
    int boardFor(int k) { return answer(it -> it.boardFor(k)); }
    int fat(int k) { return answer(it -> it.fat(k)); }
    int least(int k) { return answer(it -> it.least(k)); }
    int left(int n, int what) { return answer(it -> it.left(n, what)); }
    int piles(int what) { return answer(it -> it.piles(what)); }
    int best(int n) { return answer(it -> it.best(n)); }
    int ith(int n, int i) { return answer(it -> it.ith(n, i)); }
    int ways(int n) { return answer(it -> it.ways(n)); }
    int note(int n, int things) { return answer(it -> it.note(n, things)); }
    int bars(int n, int things) { return answer(it -> it.bars(n, things)); }
    int game(int n) { return answer(it -> it.game(n)); }
    int play(int n) { return answer(it -> it.play(n)); }
    int report(int k, int asked, int least, int most) { return answer(it -> it.report(k, asked, least, most)); }
    int forget() { return answer(it -> it.forget()); }
    int lone(int what) { return answer(it -> it.lone(what)); }
    int liar() { return answer(it -> it.liar()); }
    int seed(int v) { return answer(it -> it.seed(v)); }
    int lot() { return answer(it -> it.lot()); }
    int times(int n, int v) { return answer(it -> it.times(n, v)); }
    int prove(int n) { return answer(it -> it.prove(n)); }
    int row(int k, int what) { return answer(it -> it.row(k, what)); }
    int alterRow(int k, int what, int v) { return answer(it -> it.alterRow(k, what, v)); }
    int judge() { return answer(it -> it.judge()); }
    int sheet(int sheet, int sort, int n) { return answer(it -> it.sheet(sheet, sort, n)); }
    int write(int sheet, int i, int v) { return answer(it -> it.write(sheet, i, v)); }
    int item(int sheet, int sort, int i) { return answer(it -> it.item(sheet, sort, i)); }
    int goAll(int sheet, int i, int n) { return answer(it -> it.goAll(sheet, i, n)); }
    int wouldBe(int sheet, int i, int n) { return answer(it -> it.wouldBe(sheet, i, n)); }
    int shelf(int shelf, int what, int n) { return answer(it -> it.shelf(shelf, what, n)); }
    int taken(int shelf, int as) { return answer(it -> it.taken(shelf, as)); }
    int act(int shelf, int act, int x) { return answer(it -> it.act(shelf, act, x)); }
    int trace(int i) { return answer(it -> it.trace(i)); }
    int many(int what) { return answer(it -> it.many(what)); }
    int keep() { return answer(it -> it.keep()); }
    int again() { return answer(it -> it.again()); }
}
