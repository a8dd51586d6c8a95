/** Each promise of the document by hand: ordinary calls, the edges that it names, wrong numbers. */
public final class PatienceDeskPromises {
    private static final int NONE = -1, BAD = -2, STATE = -3, SPENT = -3, NOT_READY = -4;
    private static int asked = 0;
    private static int wrong = 0;

    private static void due(String what, int got, int want) {
        asked++;
        if (got != want) {
            wrong++;
            System.out.println(what + " answered " + got + ", due is " + want);
        }
    }

    public static void main(String[] args) {
        newObject();
        begin();
        lay();
        make();
        move();
        why();
        carry();
        carryUnderRoundAndKings();
        auto();
        autoUnderTurning();
        undo();
        redo();
        count();
        cardCellHouse();
        lets();
        solve();
        plan();
        needs();
        form();
        put();
        forgeTaken();
        forgeCopied();
        forgeOther();
        status();
        refusalsChangeNothing();
        System.out.println(asked + " answers, " + wrong + " of them not as due");
        if (wrong != 0) {
            System.exit(1);
        }
    }

    private static PatienceDesk table(int suits, int ranks, int columns, int cells, int law) {
        return anew(new PatienceDesk(), suits, ranks, columns, cells, law);
    }

    private static PatienceDesk anew(PatienceDesk x, int suits, int ranks, int columns, int cells, int law) {
        due("table", x.begin(suits, ranks, columns, cells, law), suits * ranks);
        return x;
    }

    /** Lays each column's codes, as in {{1, 10}, {9}}. */
    private static PatienceDesk laid(PatienceDesk x, int[]... columns) {
        for (int column = 0; column < columns.length; column++) {
            for (int code : columns[column]) {
                x.lay(column, code / 8, code % 8);
            }
        }
        due("all laid", x.count(1), x.count(0));
        return x;
    }

    private static int[] codes(int... codes) {
        return codes;
    }

    private static void dueColumn(String what, PatienceDesk x, int column, int... codes) {
        for (int i = 0; i < codes.length; i++) {
            due(what + ": card(" + column + ", " + i + ")", x.card(column, i), codes[i]);
        }
        due(what + ": card(" + column + ", behind the last)", x.card(column, codes.length), 0);
    }

    private static void dueForm(String what, PatienceDesk x, int... numbers) {
        for (int i = 0; i < numbers.length; i++) {
            due(what + ": form(" + i + ")", x.form(i), numbers[i]);
        }
        due(what + ": form(behind the last)", x.form(numbers.length), NONE);
    }

    private static void duePlan(String what, PatienceDesk x, int... fromTo) {
        for (int i = 0; i < fromTo.length / 2; i++) {
            due(what + ": from of " + i, x.plan(i, 0), fromTo[2 * i]);
            due(what + ": to of " + i, x.plan(i, 1), fromTo[2 * i + 1]);
        }
        due(what + ": from behind the last", x.plan(fromTo.length / 2, 0), NONE);
        due(what + ": to behind the last", x.plan(fromTo.length / 2, 1), NONE);
    }

    // Promise 1
    private static void newObject() {
        PatienceDesk x = new PatienceDesk();
        int[] counts = {1, 0, 0, 0, 1, 0, 0, 0, 0, 1, 1, 1, 0, 0};
        for (int what = 0; what < counts.length; what++) {
            due("new: count(" + what + ")", x.count(what), counts[what]);
        }
        due("new: card", x.card(0, 0), 0);
        due("new: cell", x.cell(0), BAD);
        due("new: why", x.why(), 0);
        due("new: status", x.status(), 0);
        due("new: plan", x.plan(0, 0), NONE);
        due("new: undo", x.undo(), NONE);
        due("new: redo", x.redo(), NONE);
        due("new: move", x.move(0, 5), STATE);
        due("new: solve", x.solve(1), NOT_READY);
        due("new: lay", x.lay(0, 0, 1), 1);
        due("new: solve its one card", x.solve(1), 1);
    }

    // Promise 2
    private static void begin() {
        PatienceDesk x = new PatienceDesk();
        due("begin 2 6", x.begin(2, 6, 4, 2, 4), 12);
        due("begin 4 3", x.begin(4, 3, 1, 0, 0), 12);
        due("begin 3 4", x.begin(3, 4, 2, 1, 3), 12);
        int[][] bad = {{0, 1, 1, 0, 0}, {5, 1, 1, 0, 0}, {1, 0, 1, 0, 0}, {1, 7, 1, 0, 0}, {3, 5, 1, 0, 0},
            {4, 4, 1, 0, 0}, {1, 1, 0, 0, 0}, {1, 1, 5, 0, 0}, {1, 1, 1, -1, 0}, {1, 1, 1, 3, 0},
            {1, 1, 1, 0, -1}, {1, 1, 1, 0, 5}, {65536, 65536, 1, 0, 0}, {-1, -1, 1, 0, 0}};
        for (int[] b : bad) {
            due("begin of bad numbers", x.begin(b[0], b[1], b[2], b[3], b[4]), BAD);
        }
        due("suits stay", x.count(9), 3);
        due("ranks stay", x.count(10), 4);
        due("columns stay", x.count(11), 2);
        due("cells stay", x.count(12), 1);
        due("law stays", x.count(13), 3);
        x.make(1);
        x.move(0, 4);
        due("begin anew", x.begin(2, 2, 2, 1, 0), 4);
        due("nothing is laid", x.count(1), 0);
        due("cells are free", x.count(3), 1);
        due("columns are empty", x.count(4), 2);
        due("nothing to undo", x.count(7), 0);
        due("the cell is free", x.cell(0), 0);
    }

    // Promise 3
    private static void lay() {
        PatienceDesk x = table(2, 3, 2, 1, 0);
        due("lay", x.lay(0, 0, 3), 1);
        due("lay behind", x.lay(0, 1, 1), 2);
        due("lay elsewhere", x.lay(1, 1, 2), 3);
        due("laid twice", x.lay(1, 0, 3), STATE);
        due("column -1", x.lay(-1, 0, 1), BAD);
        due("column 2", x.lay(2, 0, 1), BAD);
        due("suit -1", x.lay(0, -1, 1), BAD);
        due("suit 2", x.lay(0, 2, 1), BAD);
        due("rank 0", x.lay(0, 0, 0), BAD);
        due("rank 4", x.lay(0, 0, 4), BAD);
        due("bad ahead of laid", x.lay(2, 0, 3), BAD);
        due("still three", x.count(1), 3);
        dueColumn("lay", x, 0, 3, 9);
        dueColumn("lay", x, 1, 10);
        x.lay(0, 0, 1);
        x.lay(0, 0, 2);
        due("the last", x.lay(1, 1, 3), 6);
        due("all are laid", x.lay(1, 1, 3), STATE);
        due("to its house", x.move(0, 4), 1);
        due("to its house", x.move(0, 5), 1);
        due("in a house it is laid still", x.lay(0, 0, 1), STATE);
        due("in a cell it is laid still", x.lay(0, 0, 2), STATE);
    }

    // Promise 4
    private static void make() {
        PatienceDesk x = table(4, 3, 4, 2, 2);
        due("make", x.make(7), 12);
        int s = 7;
        int[][] columns = new int[4][12];
        int[] sizes = new int[4];
        for (int rank = 1; rank <= 3; rank++) {
            for (int suit = 0; suit < 4; suit++) {
                s = s * 1103515245 + 12345;
                int c = (s >>> 16) % 4;
                int at = Math.max(0, sizes[c] - (s >>> 8 & 3));
                for (int i = sizes[c]; i > at; i--) {
                    columns[c][i] = columns[c][i - 1];
                }
                columns[c][at] = 8 * suit + rank;
                sizes[c]++;
            }
        }
        for (int c = 0; c < 4; c++) {
            dueColumn("make(7)", x, c, java.util.Arrays.copyOf(columns[c], sizes[c]));
        }
        x.move(0, 5);
        x.move(0, 4);
        x.move(1, 0);
        due("make anew", x.make(-1), 12);
        due("houses are empty", x.count(2), 0);
        due("cells are free", x.count(3), 2);
        due("nothing to undo", x.undo(), NONE);
        due("why is 0", x.why(), 0);
        due("all laid", x.count(1), 12);
        PatienceDesk one = table(2, 6, 1, 0, 0);
        due("all into one column", one.make(Integer.MIN_VALUE), 12);
        due("the twelfth", one.card(0, 11) > 0 ? 1 : 0, 1);
    }

    // Promise 5
    private static void move() {
        PatienceDesk x = table(2, 2, 3, 2, 0);
        due("not all laid", x.move(0, 5), STATE);
        due("bad ahead of state", x.move(0, 0), BAD);
        laid(x, codes(1, 10), codes(9, 2));
        int[][] bad = {{-1, 5}, {3, 5}, {6, 5}, {0, -1}, {0, 3}, {0, 6}, {0, 0}, {2, 2}, {4, 4}, {5, 4},
            {Integer.MIN_VALUE, 5}, {0, Integer.MAX_VALUE}};
        for (int[] b : bad) {
            due("move(" + b[0] + ", " + b[1] + ")", x.move(b[0], b[1]), BAD);
        }
        due("to the first cell", x.move(0, 4), 1);
        due("cell 0", x.cell(0), 10);
        due("to the second cell", x.move(1, 4), 1);
        due("cell 1", x.cell(1), 2);
        due("no third cell", x.move(0, 4), 0);
        due("from the first cell", x.move(4, 2), 1);
        due("the first free cell again", x.move(0, 4), 1);
        due("cell 0", x.cell(0), 1);
        due("onto one of any suit", x.move(4, 2), 1);
        dueColumn("move", x, 2, 10, 1);
        due("nine to its house", x.move(1, 5), 1);
        due("the house", x.house(1), 1);
        due("from cell 1 to a house too early", x.move(5, 5), 0);
        due("one to its house", x.move(2, 5), 1);
        due("from cell 1 to a house", x.move(5, 5), 1);
        due("the last", x.move(2, 5), 1);
        due("done", x.count(8), 1);
        PatienceDesk noCells = laid(table(1, 2, 1, 0, 0), codes(2, 1));
        due("from a cell that is none", noCells.move(4, 5), BAD);
        due("to a cell where none is", noCells.move(0, 4), 0);
        PatienceDesk oneCell = laid(table(1, 2, 1, 1, 0), codes(2, 1));
        due("from a second cell that is none", oneCell.move(5, 5), BAD);
    }

    // Promise 6
    private static void why() {
        PatienceDesk x = laid(table(2, 3, 3, 1, 4), codes(3, 1), codes(11, 10, 9, 2));
        due("no card", x.move(2, 0) * 10 + x.why(), 1);
        due("no card in a cell", x.move(4, 0) * 10 + x.why(), 1);
        due("not in the house", x.move(1, 5) * 10 + x.why(), 3);
        due("not onto the last", x.move(1, 0) * 10 + x.why(), 4);
        due("not to an empty column", x.move(1, 2) * 10 + x.why(), 5);
        due("bad", x.move(9, 9), BAD);
        due("bad leaves it", x.why(), 5);
        due("undo", x.undo(), NONE);
        due("to a cell", x.move(0, 4), 1);
        due("done is 0", x.why(), 0);
        due("no cell", x.move(1, 4) * 10 + x.why(), 2);
        x.undo();
        x.carry(0, 1, 1);
        x.auto();
        x.redo();
        due("other calls leave it", x.why(), 2);
        x.make(3);
        due("make", x.why(), 0);
        due("no cell is there first", x.move(4, 5) * 10 + x.why(), 1);
        x.begin(1, 1, 1, 0, 0);
        due("begin", x.why(), 0);
        PatienceDesk noCell = laid(table(1, 1, 2, 0, 0), codes(1));
        due("no card comes first", noCell.move(1, 4) * 10 + noCell.why(), 1);
    }

    // Promise 7
    private static void carry() {
        PatienceDesk x = table(2, 4, 4, 1, 0);
        due("not all laid", x.carry(0, 1, 1), STATE);
        due("bad ahead of state", x.carry(0, 1, 0), BAD);
        laid(x, codes(9, 4, 3, 10, 1), codes(12, 11), codes(2));
        int[][] bad = {{-1, 0, 1}, {4, 0, 1}, {0, -1, 1}, {0, 4, 1}, {1, 1, 1}, {0, 1, 0}, {0, 1, -5}};
        for (int[] b : bad) {
            due("carry(" + b[0] + ", " + b[1] + ", " + b[2] + ")", x.carry(b[0], b[1], b[2]), BAD);
        }
        due("too many for the law", x.carry(0, 3, 5), 0);
        due("more than lie there", x.carry(1, 0, 3), 0);
        due("far more than lie there", x.carry(1, 0, Integer.MAX_VALUE), 0);
        due("the first does not fit", x.carry(0, 1, 3), 0);
        due("four need two doubled to another column: none is empty beside", x.carry(0, 3, 4), 0);
        due("two onto the eleven", x.carry(0, 1, 2), 1);
        dueColumn("carried in their order", x, 1, 12, 11, 10, 1);
        dueColumn("carried from", x, 0, 9, 4, 3);
        due("four with one cell and one empty column", x.carry(1, 3, 4), 0);
        due("one alone", x.carry(2, 0, 1), 1);
        dueColumn("one alone", x, 0, 9, 4, 3, 2);
        due("four with a cell, doubled for column 2", x.carry(1, 3, 4), 1);
        dueColumn("four", x, 3, 12, 11, 10, 1);
        due("from an empty column", x.carry(1, 2, 1), 0);
        due("one is undone", x.undo(), 1);
        dueColumn("undone", x, 1, 12, 11, 10, 1);
        dueColumn("undone", x, 3);
        due("a cell is taken", x.move(1, 4), 1);
        due("three with no cell", x.carry(0, 3, 3), 0);
        due("two with no cell", x.carry(1, 3, 2), 1);
        due("why is of move() alone", x.why(), 0);
    }

    private static void carryUnderRoundAndKings() {
        PatienceDesk round = laid(table(1, 3, 2, 2, 3), codes(2, 1, 3));
        due("round: a row that turns", round.carry(0, 1, 3), 1);
        dueColumn("round", round, 1, 2, 1, 3);
        PatienceDesk kings = laid(table(2, 3, 4, 0, 4), codes(11, 9, 2, 1), codes(), codes(3, 10));
        due("kings: none but a greatest to an empty column", kings.carry(2, 3, 1), 0);
        due("kings: column 3 does not count", kings.carry(2, 1, 2), 0);
        due("kings: one onto another", kings.carry(0, 2, 1), 1);
        PatienceDesk turning = laid(table(2, 3, 4, 0, 2), codes(11, 9, 2, 1), codes(), codes(3, 10));
        due("turning: two, doubled for column 3", turning.carry(2, 1, 2), 1);
        dueColumn("turning", turning, 1, 3, 10);
        due("turning: not in one suit", turning.carry(0, 1, 2), 0);
    }

    // Promise 8
    private static void auto() {
        PatienceDesk plain = table(2, 2, 3, 1, 0);
        due("not all laid", plain.auto(), STATE);
        laid(plain, codes(2, 1), codes(10), codes(9));
        plain.move(1, 4);
        due("plain: all, from a cell too", plain.auto(), 4);
        due("plain: done", plain.count(8), 1);
        due("plain: none is left", plain.auto(), 0);
        due("plain: one auto is kept", plain.count(7), 2);
        PatienceDesk waits = laid(table(2, 2, 2, 0, 0), codes(2, 1), codes(9, 10));
        due("plain: the rank 2 waits for both rank 1", waits.auto(), 1);
        due("plain: an auto by which one went is kept", waits.count(7), 1);
        due("plain: it could go", waits.move(0, 5), 1);
        PatienceDesk third = laid(table(3, 2, 3, 0, 0), codes(2, 1), codes(17, 18), codes(10, 9));
        due("plain: it waits for a suit of its own turn, too", third.auto(), 2);
        PatienceDesk suited = laid(table(2, 2, 2, 0, 1), codes(2, 1), codes(9, 10));
        due("suited: always", suited.auto(), 2);
        PatienceDesk round = laid(table(2, 2, 2, 0, 3), codes(2, 1), codes(9, 10));
        due("round: never", round.auto(), 0);
        due("round: it could go", round.move(0, 5), 1);
        PatienceDesk kings = laid(table(2, 2, 2, 0, 4), codes(2, 1), codes(10, 9));
        due("kings: never", kings.auto(), 0);
        due("kings: nothing is kept", kings.count(7), 0);
    }

    private static void autoUnderTurning() {
        PatienceDesk one = laid(table(1, 3, 1, 0, 2), codes(3, 2, 1));
        due("turning, one suit: nothing to wait for", one.auto(), 3);
        PatienceDesk x = laid(table(3, 2, 3, 0, 2), codes(2, 1), codes(17, 18), codes(10, 9));
        due("turning: 2 waits for 9 alone, 10 for 1 and 17", x.auto(), 3);
        due("turning: 10 stays", x.card(2, 0), 10);
        due("turning: house 0", x.house(0), 2);
        PatienceDesk w = laid(table(2, 2, 3, 0, 2), codes(2, 1), codes(9, 10));
        due("turning: 2 waits for 9", w.auto(), 1);
    }

    // Promise 9
    private static void undo() {
        PatienceDesk x = laid(table(1, 3, 3, 2, 0), codes(1, 2, 3));
        due("none yet", x.undo(), NONE);
        due("one that can't be", x.move(0, 5), 0);
        due("is not kept", x.undo(), NONE);
        x.move(0, 4);
        x.move(0, 4);
        x.move(4, 1);
        due("auto", x.auto(), 3);
        due("auto is one", x.count(7), 4);
        due("undo auto", x.undo(), 1);
        due("cell 1 is as it was", x.cell(1), 2);
        due("cell 0 is as it was", x.cell(0), 0);
        dueColumn("undone", x, 0, 1);
        dueColumn("undone", x, 1, 3);
        due("house", x.house(0), 0);
        due("undo", x.undo() + x.undo() + x.undo(), 3);
        dueColumn("all undone", x, 0, 1, 2, 3);
        due("none is left", x.undo(), NONE);
        x.move(0, 1);
        x.move(0, 1);
        for (int i = 0; i < 66; i++) {
            due("to and fro", x.move(i % 2, 1 - i % 2), 1);
        }
        due("64 are kept", x.count(7), 64);
        int undone = 0;
        for (int i = 0; i < 70; i++) {
            undone += x.undo() == 1 ? 1 : 0;
        }
        due("64 are undone", undone, 64);
        dueColumn("behind the four that are not kept", x, 0, 1);
        dueColumn("behind the four that are not kept", x, 1, 3, 2);
        x.move(0, 1);
        x.lay(0, 0, 1);
        due("a refused lay leaves it", x.count(7), 1);
        x.make(5);
        due("make leaves none", x.undo(), NONE);
        int column = x.card(0, 0) > 0 ? 0 : x.card(1, 0) > 0 ? 1 : 2;
        int last = x.card(column, 2) > 0 ? x.card(column, 2) : x.card(column, 1) > 0 ? x.card(column, 1) : x.card(column, 0);
        x.move(column, 4);
        due("kept", x.count(7), 1);
        due("the cell", x.cell(0), last);
        x.undo();
        due("back from the cell", x.cell(0) + x.count(2), 0);
        x.redo();
        x.begin(1, 3, 3, 2, 0);
        due("begin leaves none", x.undo(), NONE);
    }

    // Promise 10
    private static void redo() {
        PatienceDesk x = laid(table(1, 3, 3, 1, 0), codes(1, 2, 3));
        due("none", x.redo(), NONE);
        x.move(0, 4);
        x.move(0, 1);
        due("none was undone", x.redo(), NONE);
        x.undo();
        x.undo();
        due("again", x.redo(), 1);
        due("the first is done again", x.cell(0), 3);
        dueColumn("the first alone", x, 0, 1, 2);
        due("again", x.redo(), 1);
        dueColumn("the second", x, 1, 2);
        due("no more", x.redo(), NONE);
        x.undo();
        due("one that can't be", x.move(2, 0), 0);
        due("leaves it", x.redo(), 1);
        x.undo();
        laid(anew(x, 1, 2, 3, 1, 3), codes(1, 2));
        due("begin leaves none", x.redo(), NONE);
        x.move(0, 1);
        x.undo();
        due("auto that sends none", x.auto(), 0);
        due("leaves it", x.redo(), 1);
        x.undo();
        x.move(0, 2);
        due("another was done since", x.redo(), NONE);
        x.move(0, 1);
        x.move(1, 0);
        x.undo();
        x.undo();
        x.move(0, 1);
        due("another was done since two were undone", x.redo(), NONE);
        x.undo();
        for (int i = 0; i < 70; i++) {
            x.move(2 - 2 * (i % 2), 2 * (i % 2));
        }
        int again = 0;
        for (int i = 0; i < 70; i++) {
            x.undo();
        }
        for (int i = 0; i < 70; i++) {
            again += x.redo() == 1 ? 1 : 0;
        }
        due("64 again", again, 64);
        due("64 to undo", x.count(7), 64);
        dueColumn("as it was", x, 2, 2);
    }

    // Promise 11
    private static void count() {
        PatienceDesk x = table(2, 3, 3, 2, 2);
        x.lay(0, 0, 1);
        due("no moves till all are laid", x.count(6), 0);
        laid(x, codes(2, 3), codes(9, 10, 11));
        int[] counts = {6, 6, 0, 2, 1, 4, 4, 0, 0, 2, 3, 3, 2, 2};
        for (int what = 0; what < counts.length; what++) {
            due("count(" + what + ")", x.count(what), counts[what]);
        }
        due("count(-1)", x.count(-1), BAD);
        due("count(14)", x.count(14), BAD);
        x.move(0, 4);
        due("a free cell fewer", x.count(3), 1);
        due("from the cell to the empty column, too; two to 11", x.count(6), 6);
        due("buried", x.count(5), 3);
        due("undo", x.count(7), 1);
        x.move(0, 1);
        x.move(0, 5);
        due("in houses", x.count(2), 1);
        due("empty columns", x.count(4), 2);
        due("still laid", x.count(1), 6);
        PatienceDesk suits = laid(table(2, 2, 2, 0, 0), codes(9, 2, 1), codes(10));
        due("buried by one's own suit alone", suits.count(5), 0);
        PatienceDesk done = laid(table(1, 2, 1, 0, 1), codes(2, 1));
        done.auto();
        due("done", done.count(8), 1);
        due("no moves", done.count(6), 0);
    }

    // Promises 12, 13, 14
    private static void cardCellHouse() {
        PatienceDesk x = laid(table(2, 2, 2, 2, 0), codes(10, 1), codes(2, 9));
        dueColumn("card", x, 0, 10, 1);
        dueColumn("card", x, 1, 2, 9);
        due("card(0, -1)", x.card(0, -1), 0);
        due("card(0, far)", x.card(0, Integer.MAX_VALUE), 0);
        due("card(-1, 0)", x.card(-1, 0), BAD);
        due("card(2, 0)", x.card(2, 0), BAD);
        due("cell(-1)", x.cell(-1), BAD);
        due("cell(2)", x.cell(2), BAD);
        x.move(0, 4);
        due("cell(0)", x.cell(0), 1);
        due("cell(1)", x.cell(1), 0);
        due("house(0)", x.house(0), 0);
        x.move(4, 5);
        x.move(1, 5);
        x.move(1, 5);
        due("house(0)", x.house(0), 2);
        due("house(1)", x.house(1), 1);
        due("house(-1)", x.house(-1), BAD);
        due("house(2)", x.house(2), BAD);
        due("card in an empty column", x.card(1, 0), 0);
    }

    // Promise 15
    private static void lets() {
        int[][] onto = {{9, 2, 1}, {9, 18, 1}, {1, 2, 1}, {1, 10, 1}, {1, 3, 0}, {2, 1, 0}, {2, 2, 0}, {3, 1, 0}};
        int[][] byLaw = {{1, 1, 1, 1, 0, 0, 0, 0}, {0, 0, 1, 0, 0, 0, 0, 0}, {1, 1, 0, 1, 0, 0, 0, 0},
            {0, 0, 1, 0, 0, 0, 0, 1}, {1, 1, 0, 1, 0, 0, 0, 0}};
        for (int law = 0; law < 5; law++) {
            PatienceDesk x = table(3, 3, 1, 0, law);
            for (int i = 0; i < onto.length; i++) {
                due("law " + law + " lets(" + onto[i][0] + ", " + onto[i][1] + ")",
                        x.lets(onto[i][0], onto[i][1]), byLaw[law][i]);
            }
            due("law " + law + " turns in one suit alone", x.lets(3, 9), 0);
            due("law " + law + " a middle one to an empty column", x.lets(10, 0), law == 4 ? 0 : 1);
            due("law " + law + " the greatest to an empty column", x.lets(11, 0), 1);
            int[][] bad = {{0, 1}, {4, 1}, {8, 1}, {25, 1}, {-7, 1}, {1, 4}, {1, 8}, {1, 25}, {1, -1}, {0, 0},
                {Integer.MIN_VALUE, 0}, {1, Integer.MAX_VALUE}, {33, 2}};
            for (int[] b : bad) {
                due("law " + law + " lets(" + b[0] + ", " + b[1] + ")", x.lets(b[0], b[1]), BAD);
            }
        }
        due("round with one rank: itself", table(2, 1, 1, 0, 3).lets(1, 1), 0);
        due("round with one rank: another", table(2, 1, 1, 0, 3).lets(1, 9), 0);
        due("round with two ranks", table(1, 2, 1, 0, 3).lets(2, 1), 1);
        due("four suits turn", table(4, 2, 1, 0, 2).lets(1, 26), 1);
        due("four suits turn", table(4, 2, 1, 0, 2).lets(9, 26), 0);
    }

    // Promise 16
    private static void solve() {
        PatienceDesk x = table(1, 2, 1, 0, 0);
        due("bad ahead of state", x.solve(0), BAD);
        due("not all laid", x.solve(1), NOT_READY);
        due("4001", x.solve(4001), BAD);
        due("-1", x.solve(-1), BAD);
        laid(x, codes(1, 2));
        due("stuck, and that is known of one form", x.solve(1), NONE);
        PatienceDesk open = laid(table(1, 2, 1, 0, 0), codes(2, 1));
        due("two moves, one form on the way: R(1) is 2", open.solve(1), SPENT);
        due("two moves", open.solve(2), 2);
        open.move(0, 5);
        due("one move", open.solve(1), 1);
        open.move(0, 5);
        due("done already", open.solve(1), 0);
        PatienceDesk like = laid(table(1, 2, 3, 0, 0), codes(1, 2));
        due("like stands count once: R(2) is 4", like.solve(4), 3);
        due("one too few", like.solve(3), SPENT);
        PatienceDesk cells = laid(table(1, 3, 1, 2, 0), codes(1, 3, 2));
        due("with cells: R(4) is 7", cells.solve(7), 5);
        due("one too few", cells.solve(6), SPENT);
        PatienceDesk place = laid(table(1, 3, 1, 2, 2), codes(2, 3, 1));
        due("which cell has which card does not matter: R(3) is 7", place.solve(7), 4);
        due("one too few", place.solve(6), SPENT);
        PatienceDesk none = laid(table(2, 2, 2, 0, 1), codes(1, 2), codes(9, 10));
        due("none can move", none.solve(1), NONE);
        PatienceDesk round = laid(table(1, 3, 2, 0, 3), codes(2, 1, 3));
        due("the greatest aside, then all", round.solve(4000), 4);
    }

    // Promise 17
    private static void plan() {
        PatienceDesk x = laid(table(2, 2, 2, 1, 0), codes(1, 10), codes(9, 2));
        due("no plan yet", x.plan(0, 0), NONE);
        due("bad without a plan", x.plan(0, 2), BAD);
        due("five moves", x.solve(100), 5);
        due("plan(0, -1)", x.plan(0, -1), BAD);
        due("plan(0, 2)", x.plan(0, 2), BAD);
        due("plan(-1, 0)", x.plan(-1, 0), NONE);
        due("plan(-1, 2)", x.plan(-1, 2), BAD);
        duePlan("the least of each", x, 0, 4, 0, 5, 1, 5, 1, 5, 4, 5);
        due("spent", x.solve(1), SPENT);
        due("needs", x.needs(100), 1);
        x.move(0, 4);
        duePlan("is that of then", x, 0, 4, 0, 5, 1, 5, 1, 5, 4, 5);
        due("another", x.solve(100), 4);
        duePlan("another", x, 0, 5, 1, 5, 1, 5, 4, 5);
        x.make(1);
        due("make", x.plan(0, 0), NONE);
        laid(anew(x, 1, 1, 1, 0, 0), codes(1));
        due("one move", x.solve(1), 1);
        duePlan("one move", x, 0, 5);
        x.move(0, 5);
        due("no move", x.solve(1), 0);
        duePlan("no move", x);
        x.begin(1, 1, 1, 0, 0);
        due("begin", x.plan(0, 0), NONE);
        PatienceDesk like = laid(table(1, 2, 3, 2, 0), codes(), codes(), codes(1, 2));
        due("three", like.solve(100), 3);
        duePlan("the least of like ones", like, 2, 0, 2, 5, 0, 5);
    }

    // Promise 18
    private static void needs() {
        PatienceDesk x = table(1, 2, 1, 2, 0);
        due("bad ahead of state", x.needs(0), BAD);
        due("4001", x.needs(4001), BAD);
        due("not all laid", x.needs(1), NOT_READY);
        laid(x, codes(1, 2));
        due("one", x.needs(4000), 1);
        x.move(0, 4);
        due("a cell has a card", x.needs(4000), NOT_READY);
        due("bad ahead of that", x.needs(4001), BAD);
        due("none", laid(table(1, 2, 1, 2, 0), codes(2, 1)).needs(2), 0);
        due("spent", laid(table(1, 2, 1, 2, 0), codes(2, 1)).needs(1), SPENT);
        due("two", laid(table(1, 3, 1, 0, 1), codes(1, 3, 2)).needs(4000), 2);
        due("not even two", laid(table(1, 4, 1, 0, 1), codes(1, 4, 3, 2)).needs(4000), NONE);
        due("with one cell spent", laid(table(1, 3, 1, 0, 1), codes(1, 3, 2)).needs(1), SPENT);
        PatienceDesk done = laid(table(1, 1, 1, 0, 1), codes(1));
        done.auto();
        due("done", done.needs(1), 0);
    }

    // Promise 19
    private static void form() {
        PatienceDesk x = table(2, 3, 4, 2, 0);
        dueForm("nothing laid", x, 0, 0, 0, 0, 0, 0);
        due("form(-1)", x.form(-1), NONE);
        laid(x, codes(9, 3), codes(2, 10), codes(2 + 9, 1));
        dueForm("in order", x, 0, 2, 2, 10, 2, 9, 3, 2, 11, 1, 0, 0);
        x.move(0, 4);
        dueForm("a beginning", x, 0, 2, 2, 10, 1, 9, 2, 11, 1, 0, 3);
        x.move(2, 4);
        x.move(4, 3);
        dueForm("a cell's place does not matter", x, 2, 2, 10, 1, 3, 1, 9, 1, 11, 0, 1);
        x.move(3, 4);
        dueForm("cells rise", x, 0, 2, 2, 10, 1, 9, 1, 11, 1, 3);
        x.move(0, 5);
        dueForm("houses are not told", x, 0, 0, 2, 2, 10, 1, 11, 1, 3);
        PatienceDesk one = laid(table(2, 6, 1, 1, 0), codes(1, 2, 3, 4, 5, 6, 9, 10, 11, 12, 13, 14));
        dueForm("the longest column", one, 12, 1, 2, 3, 4, 5, 6, 9, 10, 11, 12, 13, 14, 0);
        PatienceDesk longer = laid(table(1, 3, 2, 0, 0), codes(3, 1), codes(2));
        dueForm("by the first code, not by length", longer, 1, 2, 2, 3, 1);
    }

    // Promise 20
    private static void put() {
        PatienceDesk x = laid(table(2, 2, 2, 1, 1), codes(2, 1), codes(10, 9));
        due("nothing", x.put(0, 0, 99), 1);
        due("the law", x.put(1, 1, -99), 1);
        due("a column", x.put(2, 2, 1), 1);
        due("the form", x.put(3, 3, Integer.MAX_VALUE), 1);
        due("truths", x.put(4, 4, Integer.MIN_VALUE), 1);
        due("status", x.status(), 0);
        int[][] bad = {{-1, 0, 0}, {6, 0, 0}, {2, -1, 0}, {2, 5, 0}, {2, 2, -1}, {2, 2, 2}};
        for (int[] b : bad) {
            x.put(5, 0, 0);
            due("put(" + b[0] + ", " + b[1] + ", " + b[2] + ")", x.put(b[0], b[1], b[2]), -1);
            due("its status", x.status(), 1);
        }
        due("the column is kept", x.forge(2, 1, 0), 10);
        x.auto();
        x.begin(1, 1, 1, 0, 4);
        due("begin leaves the law", x.forge(1, 0, 0), 1);
        due("begin leaves the column", x.forge(2, 1, 1), 9);
        due("begin leaves the form", x.forge(3, 2, 1), 2);
        due("the truths are those of then", x.forge(4, 3, 1), 0);
        due("another thing instead", x.put(2, 1, 0) + x.forge(2, 0, 4), 5);
        due("an empty column", x.put(2, 2, 0), 1);
        due("has no code", x.forge(2, 1, 0), -1);
        due("a place outside", x.status(), 12);
        due("nothing again", x.put(2, 0, 0) + x.forge(2, 1, 0), 0);
        due("nothing", x.status(), 10);
    }

    private static void dueForge(PatienceDesk x, int tray, int what, int n, int answer, int status) {
        String call = "forge(" + tray + ", " + what + ", " + n + ")";
        due(call, x.forge(tray, what, n), answer);
        due(call + "'s status", x.status(), status);
    }

    // Promise 21
    private static void forgeTaken() {
        int[][] under = {{0}, {0, 1}, {0, 2}, {0, 1, 3}, {0, 2, 4}};
        for (int law = 0; law < 5; law++) {
            PatienceDesk x = laid(table(1, 2, 1, 1, law), codes(2, 1));
            x.put(1, 1, 0);
            for (int n = -100; n <= 100; n++) {
                boolean fits = false;
                for (int kind : under[law]) {
                    fits |= kind == Math.floorMod(n, 5);
                }
                dueForge(x, 1, 0, n, fits ? law : -1, fits ? 0 : 11);
            }
            boolean suited = law == 1 || law == 3;
            dueForge(x, 1, 6, 0, suited ? law : -1, suited ? 0 : 14);
        }
        PatienceDesk x = laid(table(1, 2, 1, 1, 0), codes(2, 1));
        x.move(0, 5);
        for (int what = 1; what <= 4; what++) {
            x.put(what, what, 0);
        }
        int[] sizes = {0, 0, 1, 3, 32};
        for (int what = 1; what <= 3; what++) {
            for (int tray = 1; tray <= 4; tray++) {
                if (tray != what + 1) {
                    dueForge(x, tray, what, 50, -1, 11);
                }
            }
            dueForge(x, 0, what, 50, -1, 10);
            dueForge(x, what + 1, what, -1, -1, 12);
            dueForge(x, what + 1, what, sizes[what + 1], -1, 12);
        }
        dueForge(x, 0, 0, 3, -1, 10);
        dueForge(x, 2, 0, 0, -1, 11);
        dueForge(x, 3, 0, 0, -1, 11);
        dueForge(x, 4, 0, 0, -1, 11);
        dueForge(x, 2, 1, 0, 2, 0);
        dueForge(x, 3, 2, 0, 1, 0);
        dueForge(x, 3, 2, 1, 2, 0);
        dueForge(x, 3, 2, 2, 0, 0);
        dueForge(x, 4, 3, 1, 1, 0);
        dueForge(x, 4, 3, 2, 0, 0);
        dueForge(x, 4, 3, 31, 0, 0);
        dueForge(x, 4, 3, 0, 0, 0);
    }

    private static void forgeCopied() {
        PatienceDesk x = laid(table(2, 6, 2, 0, 0), codes(1, 9, 2, 10, 3, 11, 4, 12, 5, 13), codes(6, 14));
        x.put(1, 2, 0);
        x.put(2, 2, 1);
        x.put(3, 3, 0);
        dueForge(x, 1, 5, 0, 0, 0);
        dueForge(x, 1, 5, 1, 9, 0);
        dueForge(x, 1, 5, 2, 11, 0);
        dueForge(x, 1, 5, 3, 21, 0);
        dueForge(x, 1, 5, 4, -1, 12);
        dueForge(x, 1, 5, -1, -1, 12);
        dueForge(x, 1, 5, 100, -1, 12);
        dueForge(x, 2, 5, 1, 14, 0);
        dueForge(x, 2, 5, 2, -1, 12);
        dueForge(x, 3, 5, -1, -1, 11);
        dueForge(x, 0, 5, -1, -1, 10);
        PatienceDesk shortOnes = laid(table(1, 1, 2, 0, 0), codes(1));
        shortOnes.put(1, 2, 0);
        shortOnes.put(2, 2, 1);
        dueForge(shortOnes, 1, 5, 0, 0, 0);
        dueForge(shortOnes, 1, 5, 1, -1, 12);
        dueForge(shortOnes, 2, 5, 0, -1, 12);
    }

    private static void forgeOther() {
        PatienceDesk x = laid(table(1, 2, 1, 1, 1), codes(2, 1));
        for (int what = 1; what <= 4; what++) {
            x.put(what, what, 0);
        }
        for (int tray = 0; tray < 6; tray++) {
            dueForge(x, tray, 4, 100, 100, 0);
            dueForge(x, tray, 4, 0, 0, 0);
            dueForge(x, tray, 4, -1, -1, 13);
            dueForge(x, tray, 7, 3, 333, 0);
            dueForge(x, tray, 7, -3, -333, 0);
            dueForge(x, tray, 7, 0, -1, 15);
            dueForge(x, tray, 8, 0, -1, 10);
            dueForge(x, tray, 9, 0, -1, 1);
            dueForge(x, tray, -1, 0, -1, 1);
            dueForge(x, tray, 4, 101, -1, 1);
            dueForge(x, tray, 4, -101, -1, 1);
        }
        dueForge(x, -1, 4, 1, -1, 1);
        dueForge(x, 6, 4, 1, -1, 1);
        dueForge(x, 0, 6, 0, 0, 0);
        dueForge(x, 1, 6, 0, 1, 0);
        dueForge(x, 2, 6, 0, -1, 14);
        dueForge(x, 3, 6, 0, -1, 14);
        dueForge(x, 4, 6, 0, -1, 14);
    }

    // Promise 22
    private static void status() {
        PatienceDesk x = new PatienceDesk();
        due("at first", x.status(), 0);
        x.forge(0, 7, 0);
        due("divided by 0", x.status(), 15);
        x.begin(9, 9, 9, 9, 9);
        x.begin(1, 1, 1, 0, 0);
        x.make(1);
        x.move(0, 5);
        x.solve(0);
        due("other calls leave it", x.status(), 15);
        x.put(9, 0, 0);
        due("a number is none such", x.status(), 1);
        x.put(0, 1, 0);
        due("done", x.status(), 0);
        x.forge(0, 0, 1);
        due("of another kind", x.status(), 11);
        x.forge(0, 0, 0);
        due("done", x.status(), 0);
    }

    private static void refusalsChangeNothing() {
        PatienceDesk x = laid(table(2, 2, 2, 1, 0), codes(1, 10), codes(9, 2));
        x.solve(100);
        x.move(0, 4);
        x.move(0, 0);
        x.carry(0, 1, 0);
        x.lay(0, 0, 1);
        x.begin(0, 0, 0, 0, 0);
        x.solve(0);
        x.needs(0);
        x.needs(1);
        due("the plan is kept", x.plan(0, 1), 4);
        due("what can be undone is kept", x.count(7), 1);
        dueForm("the stand is kept", x, 1, 1, 2, 9, 2, 10);
    }
}
