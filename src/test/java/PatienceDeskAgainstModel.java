import java.util.ArrayList;
import java.util.Arrays;
import java.util.HashMap;
import java.util.LinkedHashMap;
import java.util.List;
import java.util.Map;
import java.util.Random;

/**
 * Random runs of calls on a desk and on a slow model of it, which is written from the document in
 * another way: lists of codes, forms as lists, plans by distances to the end, trays with real casts.
 */
public final class PatienceDeskAgainstModel {
    private static final int RUNS = 1000, DEALS = 400, CALLS = 512;

    public static void main(String[] args) {
        int runs = args.length > 1 ? Integer.parseInt(args[1]) : RUNS;
        long firstSeed = args.length > 2 ? Long.parseLong(args[2]) : 1;
        int wrong = 0;
        for (int run = 0; run < runs && wrong < 5; run++) {
            wrong += oneRun(firstSeed + run) ? 0 : 1;
        }
        int deals = args.length > 3 ? Integer.parseInt(args[3]) : DEALS;
        for (int deal = 0; deal < deals && wrong < 5; deal++) {
            wrong += oneDeal(firstSeed + deal) ? 0 : 1;
        }
        System.out.println(wrong == 0 ? "desk and model agree in " + runs + " runs and " + deals + " deals"
                : wrong + " runs or deals differ");
        if (wrong != 0) {
            System.exit(1);
        }
    }

    private static boolean oneRun(long seed) {
        Random random = new Random(seed);
        PatienceDesk desk = new PatienceDesk();
        Model model = new Model();
        List<String> calls = new ArrayList<>();
        int style = random.nextInt(4);
        for (int i = 0; i < CALLS; i++) {
            // a table of more than one card first: of a desk's own single card little can be asked
            Call call = i == 0 ? Call.begin(random) : Call.any(random, model, style);
            int got = call.on(desk);
            int due = call.on(model);
            calls.add(call + " = " + got);
            if (got != due) {
                int from = Math.max(0, calls.size() - 30);
                System.out.println("seed " + seed + ": " + calls.subList(from, calls.size()) + ", due is " + due);
                return false;
            }
        }
        return true;
    }

    /** A deal with some moves, then all that can be asked of its stand, at the bounds that decide. */
    private static boolean oneDeal(long seed) {
        Random random = new Random(seed);
        PatienceDesk desk = new PatienceDesk();
        Model model = new Model();
        List<Call> table = new ArrayList<>(List.of(Call.begin(random)));
        boolean agreed = agree("table", table, desk, model);
        table.addAll(random.nextBoolean() ? List.of(Call.of("make", random.nextInt())) : rows(random, model));
        agreed &= agree("cards", table.subList(1, table.size()), desk, model);
        for (int i = random.nextInt(70); i > 0; i--) {
            int[] known = model.someMove(random);
            if (known == null || known[1] == 5 && random.nextInt(3) != 0) {
                continue;
            }
            Call move = Call.of("move", known[0], known[1]);
            move.on(desk);
            move.on(model);
        }
        List<Call> carries = new ArrayList<>();
        for (int column = 0; column < 4; column++) {
            for (int other = 0; other < 4; other++) {
                for (int n = 1; n < 7; n++) {
                    carries.add(Call.of("carry", column, other, n));
                }
            }
        }
        String deal = "deal " + seed + ", " + table;
        return agreed && agree(deal, carries, desk, model) && agree(deal, questions(model), desk, model);
    }

    /** From the greatest rank on, into few columns, so that there are rows to be carried. */
    private static List<Call> rows(Random random, Model model) {
        List<Call> lays = new ArrayList<>();
        int used = 1 + random.nextInt(model.columns);
        for (int rank = model.ranks; rank > 0; rank--) {
            int turn = random.nextInt(model.suits);
            for (int suit = 0; suit < model.suits; suit++) {
                lays.add(Call.of("lay", random.nextInt(used), (suit + turn) % model.suits, rank));
            }
        }
        return lays;
    }

    private static List<Call> questions(Model model) {
        List<Call> calls = new ArrayList<>();
        calls.add(Call.of("solve", 4000));
        int needed = model.formsNeeded();
        for (int bound = needed - 1; bound <= needed + 1; bound++) {
            calls.add(Call.of("solve", bound));
        }
        for (int i = -1; i < 40; i++) {
            calls.add(Call.of("plan", i, 0));
            calls.add(Call.of("plan", i, 1));
            calls.add(Call.of("form", i));
        }
        calls.add(Call.of("needs", 4000));
        calls.add(Call.of("needs", needed));
        for (int i = 0; i < 66; i++) {
            calls.add(Call.of("undo"));
            calls.add(Call.of("count", i % 14));
        }
        for (int i = 0; i < 66; i++) {
            calls.add(Call.of("redo"));
            calls.add(Call.of("form", i % 19));
        }
        return calls;
    }

    private static boolean agree(String deal, List<Call> calls, PatienceDesk desk, Model model) {
        for (Call call : calls) {
            int got = call.on(desk);
            int due = call.on(model);
            if (got != due) {
                System.out.println(deal + ": " + call + " = " + got + ", due is " + due);
                return false;
            }
        }
        return true;
    }

    /** One call: its name and its numbers. */
    private record Call(String name, int a, int b, int c, int d, int e) {
        static Call of(String name, int... n) {
            int[] all = Arrays.copyOf(n, 5);
            return new Call(name, all[0], all[1], all[2], all[3], all[4]);
        }

        static int near(Random r, int least, int greatest) {
            if (r.nextInt(60) == 0) {
                int[] far = {Integer.MIN_VALUE, Integer.MAX_VALUE, -1000, 1000, 1 << 30, -7};
                return far[r.nextInt(far.length)];
            }
            if (r.nextInt(12) == 0) {
                return r.nextBoolean() ? least - 1 : greatest + 1;
            }
            return least + r.nextInt(greatest - least + 1);
        }

        static Call any(Random r, Model m, int style) {
            if (!m.ready() && r.nextInt(3) != 0) {
                return r.nextInt(12) == 0 ? Call.of("make", r.nextInt())
                        : Call.of("lay", near(r, 0, m.columns - 1), near(r, 0, m.suits - 1), near(r, 1, m.ranks));
            }
            int kind = r.nextInt(100);
            if (kind < 2) {
                return begin(r);
            }
            // a table that is done is of no more use
            if (kind < 3 || m.stand.housed.size() == m.laid.size() && r.nextInt(6) == 0) {
                return Call.of("make", r.nextInt());
            }
            if (kind < 4) {
                return Call.of("lay", near(r, 0, 3), near(r, 0, 3), near(r, 1, 6));
            }
            if (kind < 30) {
                int[] known = m.someMove(r);
                if (known != null && r.nextInt(3) != 0) {
                    return Call.of("move", known[0], known[1]);
                }
                return Call.of("move", near(r, 0, 5), near(r, 0, 5));
            }
            if (kind < 34) {
                return Call.of("carry", near(r, 0, 3), near(r, 0, 3), near(r, 1, 4));
            }
            if (kind < 36) {
                return Call.of(style == 0 ? "why" : "auto");
            }
            if (kind < 44) {
                return Call.of(r.nextInt(5) < (style == 1 ? 4 : 2) ? "undo" : "redo");
            }
            return asking(r, m);
        }

        static Call begin(Random r) {
            int suits = near(r, 1, 4);
            int ranks = suits >= 1 && suits <= 4 ? near(r, 1, Math.min(6, 12 / suits)) : 2;
            return Call.of("begin", suits, ranks, near(r, 1, 4), near(r, 0, 2), near(r, 0, 4));
        }

        static Call asking(Random r, Model m) {
            switch (r.nextInt(15)) {
                case 0: return Call.of("why");
                case 1: case 2: return Call.of("count", near(r, 0, 13));
                case 3: return Call.of("card", near(r, 0, 3), near(r, 0, 6));
                case 4: return Call.of("cell", near(r, 0, 1));
                case 5: return Call.of("house", near(r, 0, 3));
                case 6: return Call.of("lets", near(r, 0, 30), near(r, 0, 30));
                case 7: return Call.of("lets", m.someCode(r), r.nextInt(5) == 0 ? 0 : m.someCode(r));
                case 8: return Call.of("solve", someBound(r));
                case 9: return Call.of("plan", near(r, 0, 20), near(r, 0, 1));
                case 10: return r.nextInt(3) == 0 ? Call.of("needs", someBound(r)) : Call.of("count", 6);
                case 11: return Call.of("form", near(r, 0, 18));
                case 12: return Call.of("put", near(r, 0, 5), near(r, 0, 4), near(r, 0, 3));
                case 13: return Call.of("forge", near(r, 0, 5), near(r, 0, 8), r.nextInt(4) == 0 ? near(r, -100, 100) : near(r, -3, 9));
                default: return Call.of("status");
            }
        }

        static int someBound(Random r) {
            return r.nextInt(10) == 0 ? near(r, 1, 4000) : near(r, 1, 1 + r.nextInt(300));
        }

        int on(PatienceDesk x) {
            switch (name) {
                case "begin": return x.begin(a, b, c, d, e);
                case "lay": return x.lay(a, b, c);
                case "make": return x.make(a);
                case "move": return x.move(a, b);
                case "why": return x.why();
                case "carry": return x.carry(a, b, c);
                case "auto": return x.auto();
                case "undo": return x.undo();
                case "redo": return x.redo();
                case "count": return x.count(a);
                case "card": return x.card(a, b);
                case "cell": return x.cell(a);
                case "house": return x.house(a);
                case "lets": return x.lets(a, b);
                case "solve": return x.solve(a);
                case "plan": return x.plan(a, b);
                case "needs": return x.needs(a);
                case "form": return x.form(a);
                case "put": return x.put(a, b, c);
                case "forge": return x.forge(a, b, c);
                default: return x.status();
            }
        }

        int on(Model x) {
            switch (name) {
                case "begin": return x.begin(a, b, c, d, e);
                case "lay": return x.lay(a, b, c);
                case "make": return x.make(a);
                case "move": return x.move(a, b);
                case "why": return x.why;
                case "carry": return x.carry(a, b, c);
                case "auto": return x.auto();
                case "undo": return x.undo();
                case "redo": return x.redo();
                case "count": return x.count(a);
                case "card": return x.card(a, b);
                case "cell": return x.cell(a);
                case "house": return x.house(a);
                case "lets": return x.lets(a, b);
                case "solve": return x.solve(a);
                case "plan": return x.plan(a, b);
                case "needs": return x.needs(a);
                case "form": return x.form(a);
                case "put": return x.put(a, b, c);
                case "forge": return x.forge(a, b, c);
                default: return x.status;
            }
        }
    }

    private static class Law {
        int kind() { return 0; }
        boolean onto(int card, int onto, int ranks) { return onto % 8 == card % 8 + 1; }
        boolean toEmpty(int card, int ranks) { return true; }
        boolean safe(int card, Stand s, int suits) {
            for (int suit = 0; suit < suits; suit++) {
                int lower = 8 * suit + card % 8 - 1;
                if (lower % 8 != 0 && !s.housed(lower)) return false;
            }
            return true;
        }
        static Law of(int kind) {
            return switch (kind) {
                case 0 -> new Law();
                case 1 -> new Suited();
                case 2 -> new Turning();
                case 3 -> new RoundLaw();
                default -> new Kings();
            };
        }
    }

    private static class Suited extends Law {
        @Override int kind() { return 1; }
        @Override boolean onto(int card, int onto, int ranks) { return onto == card + 1; }
        @Override boolean safe(int card, Stand s, int suits) { return true; }
    }

    private static class Turning extends Law {
        @Override int kind() { return 2; }
        @Override boolean onto(int card, int onto, int ranks) {
            return super.onto(card, onto, ranks) && (card / 8 % 2 == 0) == (onto / 8 % 2 == 1);
        }
        @Override boolean safe(int card, Stand s, int suits) {
            for (int suit = 0; suit < suits; suit++) {
                int lower = 8 * suit + card % 8 - 1;
                if (lower % 8 != 0 && onto(lower, card, 0) && !s.housed(lower)) return false;
            }
            return true;
        }
    }

    private static final class RoundLaw extends Suited {
        @Override int kind() { return 3; }
        @Override boolean onto(int card, int onto, int ranks) {
            boolean turn = card % 8 == ranks && onto % 8 == 1 && card / 8 == onto / 8;
            return super.onto(card, onto, ranks) || turn && ranks > 1;
        }
        @Override boolean safe(int card, Stand s, int suits) { return false; }
    }

    private static final class Kings extends Turning {
        @Override int kind() { return 4; }
        @Override boolean toEmpty(int card, int ranks) { return card % 8 == ranks; }
        @Override boolean safe(int card, Stand s, int suits) { return false; }
    }

    /** Columns as lists of codes, cells as codes, houses as lists of codes. */
    private static final class Stand {
        final List<List<Integer>> columns = new ArrayList<>();
        final int[] cells;
        final List<Integer> housed = new ArrayList<>();

        Stand(int columnCount, int cellCount) {
            for (int i = 0; i < columnCount; i++) columns.add(new ArrayList<>());
            cells = new int[cellCount];
        }

        Stand copy(int cellCount) {
            Stand s = new Stand(columns.size(), cellCount);
            for (int i = 0; i < columns.size(); i++) s.columns.get(i).addAll(columns.get(i));
            System.arraycopy(cells, 0, s.cells, 0, Math.min(cellCount, cells.length));
            s.housed.addAll(housed);
            return s;
        }

        boolean housed(int code) { return housed.contains(code); }

        int last(int column) {
            List<Integer> c = columns.get(column);
            return c.isEmpty() ? 0 : c.get(c.size() - 1);
        }

        List<Integer> form() {
            List<List<Integer>> sorted = new ArrayList<>(columns);
            sorted.sort((x, y) -> {
                for (int i = 0; i < Math.min(x.size(), y.size()); i++) {
                    int difference = Integer.compare(x.get(i), y.get(i));
                    if (difference != 0) return difference;
                }
                return Integer.compare(x.size(), y.size());
            });
            List<Integer> form = new ArrayList<>();
            for (List<Integer> column : sorted) {
                form.add(column.size());
                form.addAll(column);
            }
            int[] rising = cells.clone();
            Arrays.sort(rising);
            for (int code : rising) form.add(code);
            return form;
        }
    }

    private static final class Model {
        int suits = 1, ranks = 1, columns = 1, cells = 0;
        Law law = new Law();
        Stand stand = new Stand(1, 0);
        List<Integer> laid = new ArrayList<>();
        List<Stand> back = new ArrayList<>(), forth = new ArrayList<>();
        List<int[]> plan = new ArrayList<>();
        int why = 0, status = 0;
        final Object[] trays = new Object[6];

        boolean ready() { return laid.size() == suits * ranks; }

        int someCode(Random r) { return 8 * r.nextInt(suits) + 1 + r.nextInt(ranks); }

        boolean isCode(int code) {
            return code >= 0 && code / 8 < suits && code % 8 >= 1 && code % 8 <= ranks;
        }

        int begin(int s, int r, int co, int ce, int l) {
            if (s < 1 || s > 4 || r < 1 || r > 6 || s * r > 12 || co < 1 || co > 4 || ce < 0 || ce > 2 || l < 0 || l > 4) return -2;
            suits = s; ranks = r; columns = co; cells = ce; law = Law.of(l);
            clear();
            return s * r;
        }

        void clear() {
            stand = new Stand(columns, cells);
            laid.clear(); back.clear(); forth.clear(); plan.clear();
            why = 0;
        }

        int lay(int column, int suit, int rank) {
            if (column < 0 || column >= columns || suit < 0 || suit >= suits || rank < 1 || rank > ranks) return -2;
            int code = 8 * suit + rank;
            if (laid.contains(code)) return -3;
            stand.columns.get(column).add(code);
            laid.add(code);
            return laid.size();
        }

        int make(int seed) {
            clear();
            int s = seed;
            for (int rank = 1; rank <= ranks; rank++) {
                for (int suit = 0; suit < suits; suit++) {
                    s = s * 1103515245 + 12345;
                    List<Integer> column = stand.columns.get((s >>> 16) % columns);
                    int behind = (s >>> 8) & 3;
                    column.add(Math.max(0, column.size() - behind), 8 * suit + rank);
                    laid.add(8 * suit + rank);
                }
            }
            return suits * ranks;
        }

        boolean bad(int from, int to, int cellCount) {
            boolean fromOk = from >= 0 && from < columns || from >= 4 && from < 4 + cellCount;
            boolean toOk = to >= 0 && to < columns || to == 4 || to == 5;
            return !fromOk || !toOk || from < 4 && from == to || from >= 4 && to == 4;
        }

        int whyNot(Stand s, int from, int to) {
            int code = from < 4 ? s.last(from) : s.cells[from - 4];
            if (code == 0) return 1;
            if (to == 4) {
                for (int c : s.cells) if (c == 0) return 0;
                return 2;
            }
            if (to == 5) return code % 8 == 1 || s.housed(code - 1) ? 0 : 3;
            if (s.columns.get(to).isEmpty()) return law.toEmpty(code, ranks) ? 0 : 5;
            return law.onto(code, s.last(to), ranks) ? 0 : 4;
        }

        void perform(Stand s, int from, int to) {
            int code;
            if (from < 4) {
                List<Integer> c = s.columns.get(from);
                code = c.remove(c.size() - 1);
            } else {
                code = s.cells[from - 4];
                s.cells[from - 4] = 0;
            }
            if (to == 5) {
                s.housed.add(code);
            } else if (to == 4) {
                int free = 0;
                while (s.cells[free] != 0) free++;
                s.cells[free] = code;
            } else {
                s.columns.get(to).add(code);
            }
        }

        List<int[]> moves(Stand s) {
            List<int[]> all = new ArrayList<>();
            for (int from = 0; from < 6; from++) {
                for (int to = 0; to < 6; to++) {
                    if (!bad(from, to, s.cells.length) && whyNot(s, from, to) == 0) all.add(new int[] {from, to});
                }
            }
            return all;
        }

        int[] someMove(Random r) {
            List<int[]> all = moves(stand);
            return all.isEmpty() ? null : all.get(r.nextInt(all.size()));
        }

        void done(Stand before) {
            back.add(before);
            if (back.size() > 64) back.remove(0);
            forth.clear();
        }

        int move(int from, int to) {
            if (bad(from, to, cells)) return -2;
            if (!ready()) return -3;
            why = whyNot(stand, from, to);
            if (why != 0) return 0;
            Stand before = stand.copy(cells);
            perform(stand, from, to);
            done(before);
            return 1;
        }

        int carry(int from, int to, int n) {
            if (from < 0 || from >= columns || to < 0 || to >= columns || from == to || n < 1) return -2;
            if (!ready()) return -3;
            List<Integer> source = stand.columns.get(from);
            List<Integer> target = stand.columns.get(to);
            if (n > source.size()) return 0;
            int most = 1;
            for (int c : stand.cells) most += c == 0 ? 1 : 0;
            for (int i = 0; i < columns; i++) {
                if (i != from && i != to && stand.columns.get(i).isEmpty() && law.kind() != 4) most *= 2;
            }
            if (n > most) return 0;
            List<Integer> row = new ArrayList<>(source.subList(source.size() - n, source.size()));
            for (int i = 1; i < n; i++) if (!law.onto(row.get(i), row.get(i - 1), ranks)) return 0;
            if (target.isEmpty() ? !law.toEmpty(row.get(0), ranks) : !law.onto(row.get(0), stand.last(to), ranks)) return 0;
            Stand before = stand.copy(cells);
            for (int i = 0; i < n; i++) source.remove(source.size() - 1);
            target.addAll(row);
            done(before);
            return 1;
        }

        int auto() {
            if (!ready()) return -3;
            Stand before = stand.copy(cells);
            int went = 0;
            boolean again = true;
            while (again) {
                again = false;
                // from the last place on, unlike the desk: the order must not matter
                for (int from = 5; from >= 0 && !again; from--) {
                    if (bad(from, 5, cells) || whyNot(stand, from, 5) != 0) continue;
                    int code = from < 4 ? stand.last(from) : stand.cells[from - 4];
                    if (law.safe(code, stand, suits)) {
                        perform(stand, from, 5);
                        went++;
                        again = true;
                    }
                }
            }
            if (went > 0) done(before);
            return went;
        }

        int undo() {
            if (back.isEmpty()) return -1;
            forth.add(stand);
            stand = back.remove(back.size() - 1);
            return 1;
        }

        int redo() {
            if (forth.isEmpty()) return -1;
            back.add(stand);
            stand = forth.remove(forth.size() - 1);
            return 1;
        }

        int count(int what) {
            int n = 0;
            switch (what) {
                case 0: return suits * ranks;
                case 1: return laid.size();
                case 2: return stand.housed.size();
                case 3: for (int c : stand.cells) n += c == 0 ? 1 : 0; return n;
                case 4: for (List<Integer> c : stand.columns) n += c.isEmpty() ? 1 : 0; return n;
                case 5:
                    for (List<Integer> c : stand.columns) {
                        for (int i = 0; i < c.size(); i++) {
                            int code = c.get(i);
                            n += c.subList(0, i).stream().anyMatch(o -> o / 8 == code / 8 && o < code) ? 1 : 0;
                        }
                    }
                    return n;
                case 6: return ready() ? moves(stand).size() : 0;
                case 7: return back.size();
                case 8: return stand.housed.size() == suits * ranks ? 1 : 0;
                case 9: return suits;
                case 10: return ranks;
                case 11: return columns;
                case 12: return cells;
                case 13: return law.kind();
                default: return -2;
            }
        }

        int card(int column, int i) {
            if (column < 0 || column >= columns) return -2;
            List<Integer> c = stand.columns.get(column);
            return i < 0 || i >= c.size() ? 0 : c.get(i);
        }

        int cell(int i) { return i < 0 || i >= cells ? -2 : stand.cells[i]; }

        int house(int suit) {
            return suit < 0 || suit >= suits ? -2 : (int) stand.housed.stream().filter(c -> c / 8 == suit).count();
        }

        int lets(int card, int onto) {
            if (!isCode(card) || onto != 0 && !isCode(onto)) return -2;
            return (onto == 0 ? law.toEmpty(card, ranks) : law.onto(card, onto, ranks)) ? 1 : 0;
        }

        /** D, NONE or SPENT; where it is D and a plan is asked for, the plan goes into the list. */
        int solved(Stand start, int bound, List<int[]> row) {
            Map<List<Integer>, Integer> depth = new LinkedHashMap<>();
            Map<List<Integer>, List<List<Integer>>> parents = new HashMap<>();
            List<Stand> level = List.of(start);
            depth.put(start.form(), 0);
            for (int d = 0; ; d++) {
                List<List<Integer>> ends = new ArrayList<>();
                for (Stand s : level) if (s.housed.size() == suits * ranks) ends.add(s.form());
                if (!ends.isEmpty()) {
                    if (row != null) tellPlan(start, d, ends.get(0), depth, parents, row);
                    return d;
                }
                // depth holds here just the forms of d moves or fewer
                if (depth.size() > bound) return -3;
                if (level.isEmpty()) return -1;
                level = nextLevel(level, d + 1, depth, parents);
            }
        }

        /** The least bound with which it is known, or the greatest bound. */
        int formsNeeded() {
            int least = 1;
            int greatest = 4000;
            while (least < greatest) {
                int middle = (least + greatest) / 2;
                if (solved(stand, middle, null) == -3) {
                    least = middle + 1;
                } else {
                    greatest = middle;
                }
            }
            return least;
        }

        List<Stand> nextLevel(List<Stand> level, int d, Map<List<Integer>, Integer> depth,
                Map<List<Integer>, List<List<Integer>>> parents) {
            List<Stand> next = new ArrayList<>();
            for (Stand s : level) {
                List<Integer> form = s.form();
                for (int[] m : moves(s)) {
                    Stand t = s.copy(s.cells.length);
                    perform(t, m[0], m[1]);
                    List<Integer> reached = t.form();
                    if (!depth.containsKey(reached)) {
                        depth.put(reached, d);
                        next.add(t);
                    }
                    if (depth.get(reached) == d) parents.computeIfAbsent(reached, k -> new ArrayList<>()).add(form);
                }
            }
            return next;
        }

        /** Forms on shortest ways are marked from the end; then the least move that keeps to them. */
        void tellPlan(Stand start, int d, List<Integer> end, Map<List<Integer>, Integer> depth,
                Map<List<Integer>, List<List<Integer>>> parents, List<int[]> row) {
            List<Map<List<Integer>, Boolean>> good = new ArrayList<>();
            for (int i = 0; i <= d; i++) good.add(new HashMap<>());
            good.get(d).put(end, true);
            for (int i = d; i > 0; i--) {
                for (List<Integer> form : good.get(i).keySet()) {
                    for (List<Integer> parent : parents.get(form)) good.get(i - 1).put(parent, true);
                }
            }
            row.clear();
            Stand s = start;
            for (int i = 1; i <= d; i++) {
                for (int[] m : moves(s)) {
                    Stand t = s.copy(s.cells.length);
                    perform(t, m[0], m[1]);
                    if (good.get(i).containsKey(t.form())) {
                        row.add(m);
                        s = t;
                        break;
                    }
                }
            }
            if (row.size() != d) throw new IllegalStateException("the model's plan has a gap");
        }

        int solve(int bound) {
            if (bound < 1 || bound > 4000) return -2;
            if (!ready()) return -4;
            return solved(stand, bound, plan);
        }

        int plan(int i, int what) {
            if (what < 0 || what > 1) return -2;
            return i < 0 || i >= plan.size() ? -1 : plan.get(i)[what];
        }

        int needs(int bound) {
            if (bound < 1 || bound > 4000) return -2;
            if (!ready()) return -4;
            for (int c : stand.cells) if (c != 0) return -4;
            for (int n = 0; n <= 2; n++) {
                int answer = solved(stand.copy(n), bound, null);
                if (answer != -1) return answer == -3 ? -3 : n;
            }
            return -1;
        }

        int form(int i) {
            List<Integer> form = stand.form();
            return i < 0 || i >= form.size() ? -1 : form.get(i);
        }

        int put(int tray, int what, int n) {
            if (tray < 0 || tray > 5 || what < 0 || what > 4 || what == 2 && (n < 0 || n >= columns)) {
                status = 1;
                return -1;
            }
            status = 0;
            trays[tray] = thing(what, n);
            return 1;
        }

        Object thing(int what, int n) {
            switch (what) {
                case 1: return law;
                case 2: {
                    byte[] codes = new byte[stand.columns.get(n).size()];
                    for (int i = 0; i < codes.length; i++) codes[i] = (byte) (int) stand.columns.get(n).get(i);
                    return codes;
                }
                case 3: {
                    List<Integer> form = stand.form();
                    short[] numbers = new short[form.size()];
                    for (int i = 0; i < numbers.length; i++) numbers[i] = (short) (int) form.get(i);
                    return numbers;
                }
                case 4: {
                    boolean[] truths = new boolean[32];
                    for (int code : stand.housed) truths[code] = true;
                    return truths;
                }
                default: return null;
            }
        }

        /** Here the host itself refuses, so that the desk's tests are held against Java's own. */
        int forge(int tray, int what, int n) {
            if (tray < 0 || tray > 5 || what < 0 || what > 8 || n < -100 || n > 100) {
                status = 1;
                return -1;
            }
            status = 0;
            try {
                return host(trays[tray], what, n);
            } catch (NullPointerException e) {
                status = 10;
            } catch (ClassCastException e) {
                status = 11;
            } catch (NegativeArraySizeException e) {
                status = 13;
            } catch (ArrayStoreException e) {
                status = 14;
            } catch (IndexOutOfBoundsException e) {
                status = 12;
            } catch (ArithmeticException e) {
                status = 15;
            }
            return -1;
        }

        static int host(Object thing, int what, int n) {
            switch (what) {
                case 0:
                    switch (Math.floorMod(n, 5)) {
                        case 0: return ((Law) thing).kind();
                        case 1: return ((Suited) thing).kind();
                        case 2: return ((Turning) thing).kind();
                        case 3: return ((RoundLaw) thing).kind();
                        default: return ((Kings) thing).kind();
                    }
                case 1: return ((byte[]) thing)[n];
                case 2: return ((short[]) thing)[n];
                case 3: return ((boolean[]) thing)[n] ? 1 : 0;
                case 4: return new byte[n].length;
                case 5: {
                    byte[] row = new byte[7];
                    System.arraycopy((byte[]) thing, 1, row, n, n);
                    int sum = 0;
                    for (byte code : row) sum += code;
                    return sum;
                }
                case 6: {
                    Object[] row = new Suited[1];
                    row[0] = thing;
                    return row[0] == null ? 0 : ((Law) row[0]).kind();
                }
                case 7: return 1000 / n;
                default: {
                    RuntimeException none = null;
                    throw none;
                }
            }
        }
    }
}
