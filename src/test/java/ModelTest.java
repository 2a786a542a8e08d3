import java.util.ArrayList;
import java.util.List;
import java.util.Random;
import java.util.function.Predicate;

/**
 * Runs of calls by chance (from fixed seeds) against a second, plain telling of the document:
 * kinds are classes here, conditions are trees, plans are counted through. Every answer is compared.
 */
public final class ModelTest {
    private static final int BAD = -1, FULL = -2, NONE = -3, STATE = -4;

    // ---- kinds, with their bodies

    static class Thing {
        int number, bulk, crease, board;
        boolean flat;
        List<Integer> trace = new ArrayList<>();

        int kind() { return 0; }
        int swells(int sigh, int wash) { return 1 + sigh; }
        int needs() { return bulk / 6 + crease; }
        void began(int body) { if (trace.size() < 30) trace.add(body); }
        int folds(int x) { began(10); return x * 6 - 2 * number; }
        int airs(int x) { began(11); return folds(x) + 7 * board; }
        int shares(int x) { began(12); return x / (number - board + 2); }
        int stores(int x) { began(13); return airs(x) - shares(x); }
    }

    static class Copper extends Thing {
        int kind() { return 1; }
        int swells(int sigh, int wash) { return 0; }
        int needs() { return 30; }
        int folds(int x) { began(20); return super.folds(x) ^ 23; }
    }

    static class Coat extends Thing {
        int kind() { return 2; }
        int swells(int sigh, int wash) { return super.swells(sigh, wash) * 2; }
        int needs() { return super.needs() + 4; }
        int airs(int x) { began(30); return super.airs(x) * 2; }
    }

    static class Hat extends Coat {
        int kind() { return 3; }
        int swells(int sigh, int wash) { return Math.max(0, super.swells(sigh, wash) - 3); }
        int needs() { return super.needs() / 2 + 1; }
        int folds(int x) { began(50); return super.folds(x + 9); }
        int stores(int x) { began(51); return super.stores(x) - airs(board); }
    }

    static class Linen extends Thing {
        int kind() { return 4; }
        int swells(int sigh, int wash) { return wash % 3; }
        int needs() { return super.needs() / 2; }
        int shares(int x) { began(40); return super.shares(x) + 8; }
    }

    static class Field extends Linen {
        int kind() { return 5; }
        int swells(int sigh, int wash) { return super.swells(sigh, wash) + number; }
        int needs() { return super.needs() + crease / 2; }
        int airs(int x) { began(60); return 0 - super.airs(x); }
        int shares(int x) { began(61); return super.shares(x) ^ folds(number); }
    }

    static Thing ofKind(int kind) {
        switch (kind) {
            case 1: return new Copper();
            case 2: return new Coat();
            case 3: return new Hat();
            case 4: return new Linen();
            case 5: return new Field();
            default: return new Thing();
        }
    }

    static boolean takenFor(Thing t, int kind) {
        Class<?>[] classes = {Thing.class, Copper.class, Coat.class, Hat.class, Linen.class, Field.class};
        return classes[kind].isInstance(t);
    }

    static Thing copyAs(Thing t, int kind) {
        Thing c = ofKind(kind);
        c.number = t.number;
        c.bulk = t.bulk;
        c.crease = t.crease;
        c.board = t.board;
        c.flat = t.flat;
        return c;
    }

    // ---- rules

    record Facts(int wash, int bulk, int crease, int steam, int number) { }

    record ModelRule(int kind, Predicate<Facts> when, int will) { }

    static final class Fault extends RuntimeException {
        final int place;
        Fault(int place) { this.place = place; }
    }

    record Token(String text, int place) { }

    static final class Grammar {
        final List<Token> tokens = new ArrayList<>();
        int at = 0;

        Grammar(byte[] tape) {
            int i = 0;
            while (i < tape.length) {
                int c = tape[i] & 255;
                int j = i + 1;
                if (c == 32) { i++; continue; }
                if (c >= 'a' && c <= 'z') while (j < tape.length && tape[j] >= 'a' && tape[j] <= 'z') j++;
                else if (c >= '0' && c <= '9') while (j < tape.length && tape[j] >= '0' && tape[j] <= '9') j++;
                StringBuilder b = new StringBuilder();
                for (int q = i; q < j; q++) b.append((char) (tape[q] & 255));
                tokens.add(new Token(b.toString(), i));
                i = j;
            }
            tokens.add(new Token("", tape.length));
        }

        String peek() { return tokens.get(at).text; }
        Fault fault() { return new Fault(tokens.get(at).place); }
        boolean takeIf(String text) { if (!peek().equals(text)) return false; at++; return true; }
        void need(String text) { if (!takeIf(text)) throw fault(); }

        int oneOf(List<String> words) {
            int i = words.indexOf(peek());
            if (i < 0) throw fault();
            at++;
            return i;
        }

        List<ModelRule> text() {
            List<ModelRule> out = new ArrayList<>();
            while (!peek().isEmpty()) {
                if (out.size() == 8) throw fault();
                int kind = oneOf(List.of("thing", "copper", "coat", "hat", "linen", "field"));
                Predicate<Facts> when = f -> true;
                if (takeIf("if")) when = cond(0);
                int will = oneOf(List.of("press", "leave", "fold"));
                need(";");
                out.add(new ModelRule(kind, when, will));
            }
            return out;
        }

        Predicate<Facts> cond(int open) {
            Predicate<Facts> c = all(open);
            while (takeIf("or")) c = c.or(all(open));
            return c;
        }

        Predicate<Facts> all(int open) {
            Predicate<Facts> c = one(open);
            while (takeIf("and")) c = c.and(one(open));
            return c;
        }

        Predicate<Facts> one(int open) {
            if (takeIf("not")) return one(open).negate();
            if (peek().equals("(")) {
                if (open == 3) throw fault();
                at++;
                Predicate<Facts> c = cond(open + 1);
                need(")");
                return c;
            }
            java.util.function.ToIntFunction<Facts> a = value();
            int sign = oneOf(List.of("<", "=", ">"));
            java.util.function.ToIntFunction<Facts> b = value();
            return f -> Integer.compare(a.applyAsInt(f), b.applyAsInt(f)) == sign - 1;
        }

        java.util.function.ToIntFunction<Facts> value() {
            String t = peek();
            if (t.matches("[0-9]{1,4}")) {
                at++;
                int v = Integer.parseInt(t);
                return f -> v;
            }
            switch (oneOf(List.of("wash", "bulk", "crease", "steam", "number"))) {
                case 0: return Facts::wash;
                case 1: return Facts::bulk;
                case 2: return Facts::crease;
                case 3: return Facts::steam;
                default: return Facts::number;
            }
        }
    }

    // ---- the laundry

    static final class Laundry {
        List<Thing> things = new ArrayList<>();
        List<ModelRule> rules = new ArrayList<>();
        List<int[]> reports = new ArrayList<>();
        int wash = 0, end = 12, score = 0, z = 1;
        int[] iron = new int[17], weight = new int[6], rope = new int[6];

        Laundry() { for (int i = 0; i < 16; i++) iron[i] = 9; }

        Laundry copy() {
            Laundry c = new Laundry();
            for (Thing t : things) c.things.add(copyAs(t, t.kind()));
            c.rules = new ArrayList<>(rules);
            c.reports = new ArrayList<>(reports);
            c.wash = wash;
            c.end = end;
            c.score = score;
            c.z = z;
            c.iron = iron.clone();
            c.weight = weight.clone();
            c.rope = rope.clone();
            return c;
        }

        boolean over() { return wash >= end; }
        int steam() { return iron[wash] / 4; }
        int sigh() { return iron[wash] % 4; }
        int swells(Thing t) { return Math.max(0, t.swells(sigh(), wash) - rope[t.board] / 3); }

        int pays(Thing t, int steam) {
            int press = 4 * steam + weight[t.board];
            for (Thing o : things) if (o.flat && o.board == t.board) press += 2;
            return !t.flat && press >= t.needs() ? 4 + t.bulk / 12 : 0;
        }

        int will(Thing t) {
            Facts f = new Facts(wash, t.bulk, t.crease, steam(), t.number);
            for (ModelRule r : rules) if (takenFor(t, r.kind) && r.when.test(f)) return r.will;
            return 0;
        }

        boolean may(Thing t) { return will(t) == 0 && pays(t, steam()) > 0; }

        int flat() {
            int set = 0;
            for (Thing t : things) if (t.flat) set |= 1 << t.number;
            return set;
        }

        int bulk() { return things.stream().mapToInt(t -> t.bulk).sum(); }

        int go(int act) {
            int worth = 0;
            if (act > 0 && !things.get(act - 1).flat) {
                Thing t = things.get(act - 1);
                int will = will(t);
                if (will == 0 && pays(t, steam()) > 0) {
                    worth = pays(t, steam());
                    t.flat = true;
                    t.bulk = 0;
                } else if (will == 2) {
                    t.crease = Math.min(9, t.crease + 1);
                    t.bulk = Math.max(0, t.bulk - 6);
                    if (sigh() == 0) worth = 1;
                }
            }
            if (sigh() == 3) {
                for (int i = things.size() - 1; i >= 0; i--) {
                    if (things.get(i).flat) {
                        things.get(i).flat = false;
                        things.get(i).bulk = 25;
                        break;
                    }
                }
            }
            worth += Integer.bitCount(flat());
            for (Thing t : things) t.bulk = t.flat ? 0 : Math.min(99, t.bulk + swells(t));
            wash++;
            score += worth;
            return worth;
        }

        int restAct() {
            for (Thing t : things) if (may(t)) return t.number + 1;
            return 0;
        }

        Laundry rest(int n) {
            Laundry c = copy();
            for (int i = 0; i < n && !c.over(); i++) c.go(c.restAct());
            return c;
        }

        int lot() {
            z = z * 1103515245 + 12345;
            return go((z >>> 16) % (things.size() + 1));
        }
    }

    // ---- what is asked

    static final class Model {
        Laundry l = new Laundry(), kept = null;
        byte[] tape = new byte[0];
        List<int[]> rows = new ArrayList<>();
        Object[] sheets = new Object[4];
        Object[] shelves = new Object[4];
        List<Integer> trace = new ArrayList<>();

        boolean no(int v, int least, int most) { return v < least || v > most; }
        boolean noThing(int k) { return no(k, 0, l.things.size() - 1); }

        int thing(int kind, int bulk, int crease, int board) {
            if (no(kind, 1, 5) || no(bulk, 0, 99) || no(crease, 0, 9) || no(board, 0, 5)) return BAD;
            if (l.things.size() == 6) return FULL;
            Thing t = ofKind(kind);
            t.number = l.things.size();
            t.bulk = bulk;
            t.crease = crease;
            t.board = board;
            l.things.add(t);
            return t.number;
        }

        int thingOf(int k, int what) {
            if (noThing(k) || no(what, 0, 9)) return BAD;
            Thing t = l.things.get(k);
            return new int[] {t.kind(), t.bulk, t.crease, t.board, t.flat ? 1 : 0, l.swells(t), t.needs(), l.pays(t, l.steam()), l.may(t) ? 1 : 0, l.will(t)}[what];
        }

        int change(int k, int what, int v) {
            if (noThing(k) || no(what, 1, 4) || no(v, 0, new int[] {0, 99, 9, 5, 1}[what])) return BAD;
            int was = thingOf(k, what);
            Thing t = l.things.get(k);
            if (what == 1) t.bulk = v;
            if (what == 2) t.crease = v;
            if (what == 3) t.board = v;
            if (what == 4) t.flat = v == 1;
            return was;
        }

        int remake(int k, int kind) {
            if (noThing(k) || no(kind, 1, 5)) return BAD;
            int was = l.things.get(k).kind();
            l.things.set(k, copyAs(l.things.get(k), kind));
            return was;
        }

        int iron(int wash, int v) {
            if (no(wash, 0, 15) || no(v, 0, 15)) return BAD;
            int was = l.iron[wash];
            l.iron[wash] = v;
            return was;
        }

        int board(int f, int what, int v) {
            if (no(f, 0, 5) || no(what, 0, 1) || no(v, 0, 9)) return BAD;
            int was = boardOf(f, what);
            (what == 0 ? l.weight : l.rope)[f] = v;
            return was;
        }

        int boardOf(int f, int what) {
            return no(f, 0, 5) || no(what, 0, 1) ? BAD : (what == 0 ? l.weight : l.rope)[f];
        }

        int ends(int v) {
            if (no(v, 1, 16)) return BAD;
            if (v < l.wash) return STATE;
            int was = l.end;
            l.end = v;
            return was;
        }

        int anew() {
            int was = l.wash;
            l.wash = 0;
            l.score = 0;
            for (Thing t : l.things) t.flat = false;
            return was;
        }

        int state(int what) {
            if (no(what, 0, 6)) return BAD;
            return new int[] {l.wash, l.end, l.score, l.over() ? 1 : 0, l.flat(), l.iron[l.wash], l.bulk()}[what];
        }

        int feed(long eight, int n) {
            if (no(n, 1, 8)) return BAD;
            if (tape.length + n > 200) return FULL;
            byte[] longer = java.util.Arrays.copyOf(tape, tape.length + n);
            for (int i = 0; i < n; i++) longer[tape.length + i] = (byte) (eight >> 8 * i);
            tape = longer;
            return tape.length;
        }

        int rules() {
            byte[] text = tape;
            tape = new byte[0];
            try {
                l.rules = new Grammar(text).text();
                return l.rules.size();
            } catch (Fault f) {
                return -100 - f.place;
            }
        }

        int wash() { return l.over() ? STATE : l.go(l.restAct()); }
        int on(int n) { return no(n, 0, 16) ? BAD : l.rest(n).score - l.score; }

        int when(int k) {
            if (noThing(k)) return BAD;
            if (l.things.get(k).flat) return NONE;
            for (int n = 1; n <= l.end - l.wash; n++) if (l.rest(n).things.get(k).flat) return l.wash + n - 1;
            return NONE;
        }

        int bestOf(int k, int what, int highest) {
            if (noThing(k)) return BAD;
            int was = thingOf(k, what), best = -1, most = -1;
            for (int v = 0; v <= highest; v++) {
                change(k, what, v);
                int worth = on(16);
                if (worth > most) { most = worth; best = v; }
            }
            change(k, what, was);
            return best;
        }

        int fat(int k) {
            if (noThing(k)) return BAD;
            for (int n = 0; n <= l.end - l.wash; n++) if (l.rest(n).things.get(k).bulk >= 60) return l.wash + n;
            return NONE;
        }

        int least(int k) {
            if (noThing(k)) return BAD;
            for (int s = 0; s < 4; s++) if (l.pays(l.things.get(k), s) > 0) return s;
            return NONE;
        }

        int left(int n, int what) {
            if (no(n, 0, 16) || no(what, 0, 1)) return BAD;
            return what == 0 ? l.rest(n).bulk() : l.rest(n).flat();
        }

        int piles(int what) {
            if (what != -1 && noThing(what)) return BAD;
            int n = l.things.size();
            int[] name = new int[n];
            for (int i = 0; i < n; i++) name[i] = i;
            for (Thing a : l.things) for (Thing b : l.things) {
                if (a.flat || b.flat || a.board != b.board && a.crease != b.crease) continue;
                int from = name[a.number], to = name[b.number];
                for (int i = 0; i < n; i++) if (name[i] == from) name[i] = to;
            }
            java.util.Set<Integer> names = new java.util.HashSet<>();
            int set = 0;
            for (Thing t : l.things) {
                if (t.flat) continue;
                names.add(name[t.number]);
                if (what >= 0 && name[t.number] == name[what]) set |= 1 << t.number;
            }
            return what == -1 ? names.size() : l.things.get(what).flat ? 0 : set;
        }

        // A plan as a number, its first act the highest digit.
        int length(int n) { return Math.max(0, Math.min(n, l.end - l.wash)); }
        int plans(int n) { int p = 1; for (int i = 0; i < length(n); i++) p *= l.things.size() + 1; return p; }

        int[] plan(int n, int p) {
            int[] acts = new int[length(n)];
            for (int i = acts.length - 1; i >= 0; i--) { acts[i] = p % (l.things.size() + 1); p /= l.things.size() + 1; }
            return acts;
        }

        Laundry after(int[] acts) {
            Laundry c = l.copy();
            for (int a : acts) c.go(a);
            return c;
        }

        int worth(int[] acts) { return after(acts).score - l.score; }

        int[] first(int n) {
            int[] best = null;
            int most = -1;
            for (int p = 0; p < plans(n); p++) {
                int[] acts = plan(n, p);
                int w = worth(acts);
                if (w > most) { most = w; best = acts; }
            }
            return best;
        }

        int best(int n) { return no(n, 0, 4) ? BAD : worth(first(n)); }
        int ith(int n, int i) { return no(n, 0, 4) || no(i, 0, 3) ? BAD : i >= length(n) ? NONE : first(n)[i]; }

        int ways(int n) {
            if (no(n, 0, 4)) return BAD;
            int most = best(n), ways = 0;
            for (int p = 0; p < plans(n); p++) if (worth(plan(n, p)) == most) ways++;
            return ways;
        }

        int note(int n, int things) {
            if (no(n, 0, 4) || no(things, 0, (1 << l.things.size()) - 1)) return BAD;
            int fewest = 99;
            for (int p = 0; p < plans(n); p++) {
                int[] acts = plan(n, p);
                int told = (int) java.util.Arrays.stream(acts).filter(a -> a != 0).count();
                if ((after(acts).flat() & things) == things) fewest = Math.min(fewest, told);
            }
            return fewest == 99 ? NONE : fewest;
        }

        int bars(int n, int things) {
            if (no(n, 0, 4) || no(things, 0, (1 << l.things.size()) - 1)) return BAD;
            for (int k = 0; k < 6; k++) if ((things >> k & 1) == 1 && note(n, 1 << k) == NONE) return k;
            return NONE;
        }

        int value(Laundry c, int n, boolean much) {
            if (n == 0 || c.over()) return c.score;
            int best = much ? Integer.MIN_VALUE : Integer.MAX_VALUE;
            for (int a = 0; a <= c.things.size(); a++) {
                Laundry d = c.copy();
                d.go(a);
                int v = value(d, n - 1, !much);
                best = much ? Math.max(best, v) : Math.min(best, v);
            }
            return best;
        }

        int game(int n) { return no(n, 1, 4) ? BAD : value(l, n, true) - l.score; }

        int play(int n) {
            if (no(n, 1, 4)) return BAD;
            if (l.over()) return NONE;
            int v = value(l, n, true);
            for (int a = 0; ; a++) {
                Laundry d = l.copy();
                d.go(a);
                if (value(d, n - 1, false) == v) return a;
            }
        }

        int report(int k, int asked, int least, int most) {
            if (no(k, 0, 15) || no(asked, 0, 1) || no(least, 0, asked == 0 ? 99 : 16) || no(most, least, asked == 0 ? 99 : 16)) return BAD;
            if (l.reports.size() == 6) return FULL;
            l.reports.add(new int[] {k, asked, least, most});
            return l.reports.size() - 1;
        }

        int forget() {
            int was = l.reports.size();
            l.reports.clear();
            return was;
        }

        boolean isSo(int[] r, int kind, int crease, int bulk) {
            Thing t = ofKind(kind);
            t.crease = crease;
            t.bulk = bulk;
            int paid = 0;
            for (int w = 0; w < r[0]; w++) {
                if (4 * (l.iron[w] / 4) >= t.needs()) paid++;
                t.bulk = Math.min(99, t.bulk + t.swells(l.iron[w] % 4, w));
            }
            int v = r[1] == 0 ? t.bulk : paid;
            return v >= r[2] && v <= r[3];
        }

        List<int[]> fitting(int but) {
            List<int[]> out = new ArrayList<>();
            for (int kind = 1; kind < 6; kind++) for (int crease = 0; crease < 10; crease++) for (int bulk = 0; bulk < 90; bulk += 9) {
                boolean fits = true;
                for (int i = 0; i < l.reports.size(); i++) fits &= i == but || isSo(l.reports.get(i), kind, crease, bulk);
                if (fits) out.add(new int[] {kind, crease, bulk});
            }
            return out;
        }

        int lone(int what) {
            if (no(what, 0, 3)) return BAD;
            List<int[]> fit = fitting(-1);
            return what == 0 ? fit.size() : fit.isEmpty() ? NONE : fit.get(0)[what - 1];
        }

        int liar() {
            if (!fitting(-1).isEmpty()) return NONE;
            for (int i = 0; i < l.reports.size(); i++) if (!fitting(i).isEmpty()) return i;
            return NONE;
        }

        int seed(int v) {
            int was = l.z;
            l.z = v;
            return was;
        }

        int lot() { return l.over() ? STATE : l.lot(); }

        int times(int n, int v) {
            if (no(n, 1, 40) || no(v, 0, 999)) return BAD;
            int z = l.z, reached = 0;
            for (int i = 0; i < n; i++) {
                Laundry c = l.copy();
                c.z = z;
                while (!c.over()) c.lot();
                z = c.z;
                if (c.score - l.score >= v) reached++;
            }
            return reached;
        }

        int prove(int n) {
            if (no(n, 0, 4)) return BAD;
            rows.clear();
            Laundry c = l.copy();
            for (int a : first(n)) {
                int w = c.go(a);
                rows.add(new int[] {a, w, c.flat()});
            }
            return rows.size();
        }

        int row(int k, int what) { return no(k, 0, rows.size() - 1) || no(what, 0, 2) ? -9 : rows.get(k)[what]; }

        int alterRow(int k, int what, int v) {
            if (no(k, 0, rows.size() - 1) || no(what, 0, 2)) return -9;
            int was = rows.get(k)[what];
            rows.get(k)[what] = v;
            return was;
        }

        int judge() {
            Laundry c = l.copy();
            for (int i = 0; i < rows.size(); i++) {
                int[] r = rows.get(i);
                if (c.over() || no(r[0], 0, c.things.size()) || c.go(r[0]) != r[1] || c.flat() != r[2]) return i + 1;
            }
            return 0;
        }

        int sheet(int sheet, int sort, int n) {
            if (no(sheet, 0, 3) || no(sort, -1, 4) || sort >= 0 && n > 40) return BAD;
            if (sort >= 0 && n < 0) return -14;
            switch (sort) {
                case -1: sheets[sheet] = null; break;
                case 0: sheets[sheet] = new byte[n]; break;
                case 1: sheets[sheet] = new short[n]; break;
                case 2: sheets[sheet] = new int[n]; break;
                case 3: sheets[sheet] = new long[n]; break;
                default: sheets[sheet] = new boolean[n]; break;
            }
            return 1;
        }

        // The host's refusals are what the machine itself would say of such rows.
        int write(int sheet, int i, int v) {
            if (no(sheet, 0, 3)) return BAD;
            Object row = sheets[sheet];
            try {
                if (row instanceof byte[] r) r[i] = (byte) v;
                else if (row instanceof short[] r) r[i] = (short) v;
                else if (row instanceof int[] r) r[i] = v;
                else if (row instanceof long[] r) r[i] = v;
                else ((boolean[]) row)[i] = v != 0;
                return 1;
            } catch (RuntimeException e) {
                return refusal(e);
            }
        }

        int refusal(RuntimeException e) {
            return e instanceof NullPointerException ? -11 : e instanceof ArrayIndexOutOfBoundsException ? -12
                : e instanceof ClassCastException ? -13 : e instanceof ArithmeticException ? -15 : -99;
        }

        int item(int sheet, int sort, int i) {
            if (no(sheet, 0, 3) || no(sort, 0, 4)) return BAD;
            Object row = sheets[sheet];
            try {
                switch (sort) {
                    case 0: return ((byte[]) row)[i];
                    case 1: return ((short[]) row)[i];
                    case 2: return ((int[]) row)[i];
                    case 3: return (int) ((long[]) row)[i];
                    default: return ((boolean[]) row)[i] ? 1 : 0;
                }
            } catch (RuntimeException e) {
                return refusal(e);
            }
        }

        int goAll(int sheet, int i, int n) {
            if (no(sheet, 0, 3) || no(n, 0, 20)) return BAD;
            try {
                byte[] row = (byte[]) sheets[sheet];
                int worth = 0, length = row.length;
                for (int j = 0; j < n && length >= 0; j++) {
                    int a = row[i + j];
                    if (!no(a, 0, l.things.size()) && !l.over()) worth += l.go(a);
                }
                return worth;
            } catch (RuntimeException e) {
                return refusal(e);
            }
        }

        int wouldBe(int sheet, int i, int n) {
            if (no(sheet, 0, 3) || no(n, 0, 20)) return BAD;
            try {
                byte[] row = (byte[]) sheets[sheet];
                Laundry c = l.copy();
                int length = row.length;
                for (int j = 0; j < n && length >= 0; j++) {
                    int a = row[i + j];
                    if (no(a, 0, l.things.size()) || c.over()) return STATE;
                    c.go(a);
                }
                return c.score - l.score;
            } catch (RuntimeException e) {
                return refusal(e);
            }
        }

        int shelf(int shelf, int what, int n) {
            if (no(shelf, 0, 3) || no(what, 0, 2) || what == 0 && noThing(n) || what == 1 && no(n, 0, 3)) return BAD;
            shelves[shelf] = what == 0 ? (Object) n : what == 1 ? sheets[n] : null;
            return 1;
        }

        Object held(int shelf) {
            Object o = shelves[shelf];
            return o instanceof Integer k ? (noThing(k) ? null : l.things.get(k)) : o;
        }

        int taken(int shelf, int as) {
            if (no(shelf, 0, 3) || no(as, 0, 5) && no(as, 10, 14)) return BAD;
            Class<?>[] classes = {Thing.class, Copper.class, Coat.class, Hat.class, Linen.class, Field.class, null, null, null, null,
                byte[].class, short[].class, int[].class, long[].class, boolean[].class};
            try {
                Object o = classes[as].cast(held(shelf));
                return o instanceof Thing t ? t.number : o == null ? -11 : java.lang.reflect.Array.getLength(o);
            } catch (RuntimeException e) {
                return refusal(e);
            }
        }

        int act(int shelf, int act, int x) {
            trace = new ArrayList<>();
            if (no(shelf, 0, 3) || no(act, 0, 3) || !(held(shelf) instanceof Thing t)) return 0;
            t.trace = trace;
            try {
                return act == 0 ? t.folds(x) : act == 1 ? t.airs(x) : act == 2 ? t.shares(x) : t.stores(x);
            } catch (RuntimeException e) {
                return refusal(e);
            }
        }

        int trace(int i) { return no(i, 0, trace.size() - 1) ? NONE : trace.get(i); }

        int many(int what) {
            if (no(what, 0, 6)) return BAD;
            return new int[] {l.things.size(), l.rules.size(), Integer.bitCount(l.flat()), l.reports.size(), rows.size(), tape.length, trace.size()}[what];
        }

        int keep() {
            kept = l.copy();
            return 1;
        }

        int again() {
            if (kept == null) return NONE;
            l = kept.copy();
            return l.things.size();
        }
    }

    // ---- runs by chance

    // How many calls a look takes at most, and a step other than a text being fed.
    private static final int LOOK = 74, STEP = 16;
    private final Random chance;
    private final IronedFlat real = new IronedFlat();
    private final Model model = new Model();
    private final StringBuilder told = new StringBuilder();
    private int wrong = 0;
    private int calls = 0;

    private ModelTest(long seed) {
        chance = new Random(seed);
    }

    // Mostly within, now and then at or beyond the edges.
    private int in(int least, int most) {
        int d = chance.nextInt(40);
        if (d == 0) return least - 1;
        if (d == 1) return most + 1;
        if (d == 2) return chance.nextInt(4) == 0 ? (chance.nextBoolean() ? Integer.MIN_VALUE : Integer.MAX_VALUE) : chance.nextInt();
        return most < least ? least : least + chance.nextInt(most - least + 1);
    }

    // Plans of 4 are dear for the model.
    private int most() { return chance.nextInt(8) == 0 ? 4 : 3; }
    private int aThing() { return in(0, Math.max(0, model.l.things.size() - 1)); }

    private void same(String call, int got, int due) {
        calls++;
        told.append(call).append(" -> ").append(due).append('\n');
        if (got != due) {
            wrong++;
            System.out.println(call + " answered " + got + ", the model says " + due);
        }
    }

    private void feedText(byte[] text) {
        int n;
        for (int i = 0; i < text.length && callsLeft() > LOOK + 2; i += n) {
            n = Math.min(text.length - i, 1 + chance.nextInt(8));
            long eight = chance.nextLong();
            for (int j = 0; j < n; j++) eight = eight & ~(255L << 8 * j) | (text[i + j] & 255L) << 8 * j;
            same("feed(" + eight + "L, " + n + ")", real.feed(eight, n), model.feed(eight, n));
        }
    }

    private String any(String... of) { return of[chance.nextInt(of.length)]; }
    private String gap() { return any(" ", " ", "  "); }
    private String value() { return any("wash", "bulk", "crease", "steam", "number", "" + chance.nextInt(12), "" + chance.nextInt(100), "00" + chance.nextInt(100)); }

    private String condition(int depth) {
        StringBuilder b = new StringBuilder();
        int parts = 1 + (chance.nextInt(3) == 0 ? chance.nextInt(3) : 0);
        for (int i = 0; i < parts; i++) {
            if (i > 0) b.append(gap()).append(any("and", "or")).append(gap());
            while (chance.nextInt(4) == 0) b.append("not").append(gap());
            if (depth < 5 && chance.nextInt(4) == 0) b.append(any("(", "( ")).append(condition(depth + 1)).append(any(")", " )"));
            else b.append(value()).append(any("", " ")).append(any("<", "=", ">")).append(any("", " ")).append(value());
        }
        return b.toString();
    }

    private byte[] someText() {
        StringBuilder b = new StringBuilder();
        int n = chance.nextInt(20) == 0 ? 7 + chance.nextInt(4) : chance.nextInt(5);
        for (int i = 0; i < n; i++) {
            b.append(any("", " ")).append(any("thing", "copper", "coat", "hat", "linen", "field"));
            if (n < 7 && chance.nextInt(3) > 0) b.append(gap()).append("if").append(gap()).append(condition(0));
            b.append(gap()).append(any("press", "leave", "fold", "press")).append(any("", " ")).append(";");
        }
        if (chance.nextInt(3) == 0 && b.length() > 0) spoil(b);
        byte[] out = new byte[Math.min(200, b.length())];
        for (int i = 0; i < out.length; i++) out[i] = (byte) b.charAt(i);
        return out;
    }

    private void spoil(StringBuilder b) {
        int i = chance.nextInt(b.length());
        switch (chance.nextInt(4)) {
            case 0: b.deleteCharAt(i); break;
            case 1: b.setLength(i); break;
            case 2: b.insert(i, any("(", ")", ";", "9", "12345", " x ", "not ", "{", "if", "" + (char) chance.nextInt(256))); break;
            default: b.setCharAt(i, any(" ", "z", "0", "<", "=", "(", "A").charAt(0)); break;
        }
    }

    private void setUp() {
        int n = chance.nextInt(7);
        for (int i = 0; i < n; i++) call(0);
        for (int i = 0; i < 8; i++) call(4);
        for (int i = 0; i < 6; i++) call(5);
        for (int i = 0; i < 6; i++) call(39);
        for (int i = 0; i < 20; i++) call(40);
        for (int i = 0; i < 6; i++) call(44);
    }

    private void call(int which) {
        int a, b, c, d;
        switch (which) {
            case 0: a = in(1, 5); b = in(0, 99); c = in(0, 9); d = in(0, chance.nextBoolean() ? 5 : 2); same("thing(" + a + ", " + b + ", " + c + ", " + d + ")", real.thing(a, b, c, d), model.thing(a, b, c, d)); break;
            case 1: a = aThing(); b = in(0, 9); same("thingOf(" + a + ", " + b + ")", real.thingOf(a, b), model.thingOf(a, b)); break;
            case 2: a = aThing(); b = in(1, 4); c = b == 1 ? in(0, 99) : b == 2 ? in(0, 9) : b == 3 ? in(0, 5) : in(0, 1); same("change(" + a + ", " + b + ", " + c + ")", real.change(a, b, c), model.change(a, b, c)); break;
            case 3: a = aThing(); b = in(1, 5); same("remake(" + a + ", " + b + ")", real.remake(a, b), model.remake(a, b)); break;
            case 4: a = in(0, 15); b = in(0, 15); same("iron(" + a + ", " + b + ")", real.iron(a, b), model.iron(a, b)); break;
            case 5: a = in(0, 5); b = in(0, 1); c = in(0, 9); same("board(" + a + ", " + b + ", " + c + ")", real.board(a, b, c), model.board(a, b, c)); break;
            case 6: a = in(0, 5); b = in(0, 1); same("boardOf(" + a + ", " + b + ")", real.boardOf(a, b), model.boardOf(a, b)); break;
            case 7: a = in(1, 16); same("ends(" + a + ")", real.ends(a), model.ends(a)); break;
            case 8: same("anew()", real.anew(), model.anew()); break;
            case 9: a = in(0, 6); same("state(" + a + ")", real.state(a), model.state(a)); break;
            case 10: feedText(someText()); if (chance.nextInt(10) > 0) call(11); break;
            case 11: same("rules()", real.rules(), model.rules()); break;
            case 12: same("wash()", real.wash(), model.wash()); break;
            case 13: a = in(0, 16); same("on(" + a + ")", real.on(a), model.on(a)); break;
            case 14: a = aThing(); same("when(" + a + ")", real.when(a), model.when(a)); break;
            case 15: a = aThing(); same("creaseFor(" + a + ")", real.creaseFor(a), model.bestOf(a, 2, 9)); break;
            case 16: a = aThing(); same("boardFor(" + a + ")", real.boardFor(a), model.bestOf(a, 3, 5)); break;
            case 17: a = aThing(); same("fat(" + a + ")", real.fat(a), model.fat(a)); break;
            case 18: a = aThing(); same("least(" + a + ")", real.least(a), model.least(a)); break;
            case 19: a = in(0, 16); b = in(0, 1); same("left(" + a + ", " + b + ")", real.left(a, b), model.left(a, b)); break;
            case 20: a = in(-1, 5); same("piles(" + a + ")", real.piles(a), model.piles(a)); break;
            case 21: a = in(0, most()); same("best(" + a + ")", real.best(a), model.best(a)); break;
            case 22: a = in(0, most()); b = in(0, 3); same("ith(" + a + ", " + b + ")", real.ith(a, b), model.ith(a, b)); break;
            case 23: a = in(0, most()); same("ways(" + a + ")", real.ways(a), model.ways(a)); break;
            case 24: a = in(0, most()); b = in(0, (1 << model.l.things.size()) - 1); if (chance.nextBoolean()) b &= chance.nextInt(64); same("note(" + a + ", " + b + ")", real.note(a, b), model.note(a, b)); break;
            case 25: a = in(0, 2); b = in(0, (1 << model.l.things.size()) - 1); same("bars(" + a + ", " + b + ")", real.bars(a, b), model.bars(a, b)); break;
            case 26: a = in(1, most()); same("game(" + a + ")", real.game(a), model.game(a)); break;
            case 27: a = in(1, most()); same("play(" + a + ")", real.play(a), model.play(a)); break;
            case 28: aReport(); break;
            case 29: if (chance.nextInt(4) == 0) same("forget()", real.forget(), model.forget()); break;
            case 30: a = in(0, 3); same("lone(" + a + ")", real.lone(a), model.lone(a)); break;
            case 31: same("liar()", real.liar(), model.liar()); break;
            case 32: a = chance.nextInt(); same("seed(" + a + ")", real.seed(a), model.seed(a)); break;
            case 33: same("lot()", real.lot(), model.lot()); break;
            case 34: a = in(1, 40); b = chance.nextInt(10) == 0 ? in(0, 999) : in(0, 60); same("times(" + a + ", " + b + ")", real.times(a, b), model.times(a, b)); break;
            case 35: a = in(0, most()); same("prove(" + a + ")", real.prove(a), model.prove(a)); break;
            default: hostCall(which); break;
        }
    }

    private void aReport() {
        int a = in(0, 15), b = in(0, 1), most = b == 1 ? 16 : 99;
        int c = in(0, most), d = in(Math.max(0, Math.min(c, most)), most);
        same("report(" + a + ", " + b + ", " + c + ", " + d + ")", real.report(a, b, c, d), model.report(a, b, c, d));
    }

    private void hostCall(int which) {
        int a, b, c;
        switch (which) {
            case 36: a = in(0, 3); b = in(0, 2); same("row(" + a + ", " + b + ")", real.row(a, b), model.row(a, b)); break;
            case 37: if (chance.nextInt(3) > 0) break; a = in(0, 3); b = in(0, 2); c = in(0, 9); same("alterRow(" + a + ", " + b + ", " + c + ")", real.alterRow(a, b, c), model.alterRow(a, b, c)); break;
            case 38: same("judge()", real.judge(), model.judge()); break;
            case 39: a = in(0, 3); b = chance.nextBoolean() ? 0 : in(-1, 4); c = in(0, chance.nextBoolean() ? 40 : 6); same("sheet(" + a + ", " + b + ", " + c + ")", real.sheet(a, b, c), model.sheet(a, b, c)); break;
            case 40: a = in(0, 3); b = in(0, chance.nextBoolean() ? 4 : 39); c = chance.nextInt(5) == 0 ? chance.nextInt() : in(0, 6); same("write(" + a + ", " + b + ", " + c + ")", real.write(a, b, c), model.write(a, b, c)); break;
            case 41: a = in(0, 3); b = in(0, 4); c = in(0, 6); same("item(" + a + ", " + b + ", " + c + ")", real.item(a, b, c), model.item(a, b, c)); break;
            case 42: a = in(0, 3); b = in(0, 6); c = in(0, chance.nextBoolean() ? 20 : 3); same("goAll(" + a + ", " + b + ", " + c + ")", real.goAll(a, b, c), model.goAll(a, b, c)); break;
            case 43: a = in(0, 3); b = in(0, 6); c = in(0, chance.nextBoolean() ? 20 : 3); same("wouldBe(" + a + ", " + b + ", " + c + ")", real.wouldBe(a, b, c), model.wouldBe(a, b, c)); break;
            case 44: a = in(0, 3); b = chance.nextBoolean() ? 0 : in(0, 2); c = b == 0 ? aThing() : in(0, 3); same("shelf(" + a + ", " + b + ", " + c + ")", real.shelf(a, b, c), model.shelf(a, b, c)); break;
            case 45: a = in(0, 3); b = chance.nextBoolean() ? in(0, 5) : in(10, 14); same("taken(" + a + ", " + b + ")", real.taken(a, b), model.taken(a, b)); break;
            case 46: a = in(0, 3); b = in(0, 3); c = chance.nextInt(9) == 0 ? chance.nextInt() : in(-50, 50); same("act(" + a + ", " + b + ", " + c + ")", real.act(a, b, c), model.act(a, b, c)); hostCall(47); break;
            case 47: for (int i = -1; i < 12; i++) same("trace(" + i + ")", real.trace(i), model.trace(i)); break;
            case 48: a = in(0, 6); same("many(" + a + ")", real.many(a), model.many(a)); break;
            case 49: same("keep()", real.keep(), model.keep()); break;
            default: same("again()", real.again(), model.again()); break;
        }
    }

    // All of the laundry that can be looked at, so that a wrong change shows soon.
    private void look() {
        for (int i = 0; i < 7; i++) same("state(" + i + ")", real.state(i), model.state(i));
        for (int i = 0; i < 7; i++) same("many(" + i + ")", real.many(i), model.many(i));
        for (int k = 0; k < model.l.things.size(); k++) for (int w = 0; w < 10; w++) same("thingOf(" + k + ", " + w + ")", real.thingOf(k, w), model.thingOf(k, w));
    }

    // What is answered behind the 512th call is free, so a run ends ahead of it.
    private int callsLeft() { return 512 - calls; }

    private int go() {
        setUp();
        for (int i = 1; callsLeft() > LOOK + STEP && wrong == 0; i++) {
            if (model.l.over() && chance.nextInt(3) == 0) call(8);
            call(chance.nextInt(4) == 0 ? 36 + chance.nextInt(13) : chance.nextInt(51));
            if (i % 40 == 0 && callsLeft() > 2 * LOOK) look();
        }
        look();
        if (callsLeft() < 0) throw new IllegalStateException("a run of " + calls + " calls");
        return wrong;
    }

    public static void main(String[] args) {
        int runs = args.length > 0 ? Integer.parseInt(args[0]) : 1500;
        int from = args.length > 1 ? Integer.parseInt(args[1]) : 1;
        for (int seed = from; seed < from + runs; seed++) {
            ModelTest test = new ModelTest(seed);
            if (test.go() != 0) {
                System.out.println("in the run of seed " + seed + "; all calls of it:");
                System.out.println(test.told);
                System.exit(1);
            }
        }
        System.out.println("ModelTest: " + runs + " runs by chance answer as the model does");
    }
}
