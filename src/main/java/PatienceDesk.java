import java.util.Arrays;

/**
 * A desk for patiences in which all cards lie open.
 *
 * <p>Inside, a card is a number 1 .. 12 that rises with its code, so that a column fits into one
 * long, four bits a card, and so does the form of a stand.
 */
public final class PatienceDesk {
    public static final int NONE = -1, BAD = -2, STATE = -3;

    private static final int SPENT = -3, NOT_READY = -4;

    private static final int MOST_SUITS = 4, MOST_RANKS = 6, MOST_CARDS = 12;
    private static final int MOST_COLUMNS = 4, MOST_CELLS = 2, MOST_BOUND = 4000;

    /** A row that is asked by four bits has sixteen places, so that no such index is outside. */
    private static final int NIBBLES = 16;
    private static final int CARD_BITS = 15;

    private static final int TO_CELL = 4, TO_HOUSE = 5, FIRST_CELL = 4, PLACES = 6;

    private static final int PLAIN = 0, SUITED = 1, TURNING = 2, ROUND = 3, KINGS = 4, LAWS = 5;
    /** For each law a bit for itself and for each law that it stands under. */
    private static final int[] LAWS_ABOVE = {0b00001, 0b00011, 0b00101, 0b01011, 0b10101};

    private static final int NO_CARD = 1, NO_FREE_CELL = 2, NOT_NEXT_IN_HOUSE = 3;
    private static final int NOT_ONTO_CARD = 4, NOT_TO_EMPTY = 5;

    private static final int TRAYS = 6, FORGE_LIMIT = 100, COPY_ROW = 7, DIVIDED = 1000;
    private static final int HOLDS_NOTHING = 0, HOLDS_LAW = 1, HOLDS_COLUMN = 2;
    private static final int HOLDS_FORM = 3, HOLDS_TRUTHS = 4;
    private static final int CODES = 32;

    private static final int FINE = 0, NO_SUCH_NUMBER = 1, IS_NOTHING = 10, OTHER_KIND = 11;
    private static final int OUTSIDE = 12, NEGATIVE_SIZE = 13, DOES_NOT_FIT = 14;
    private static final int DIVIDED_BY_ZERO = 15;

    private final Deck deck = new Deck();
    private final Stand stand = new Stand(deck);
    private final History history = new History();
    private final Tray[] trays = new Tray[TRAYS];
    private final short[] formRow = new short[MOST_COLUMNS + MOST_CARDS + MOST_CELLS];
    private final Search search = new Search(deck);
    private final Plan latestPlan = new Plan();
    private int laidCards;
    private int latestWhy;
    private int latestStatus;

    public PatienceDesk() {
        for (int i = 0; i < TRAYS; i++) {
            trays[i] = new Tray();
        }
        deck.choose(1, 1, 1, 0, PLAIN);
        emptyTable();
    }

    public int begin(int suits, int ranks, int columns, int cells, int law) {
        boolean deckFits = isWithin(suits, 1, MOST_SUITS) && isWithin(ranks, 1, MOST_RANKS)
                && suits * ranks <= MOST_CARDS;
        boolean tableFits = isWithin(columns, 1, MOST_COLUMNS) && isWithin(cells, 0, MOST_CELLS);
        if (!deckFits || !tableFits || !isWithin(law, 0, LAWS - 1)) {
            return BAD;
        }
        deck.choose(suits, ranks, columns, cells, law);
        emptyTable();
        return deck.size();
    }

    public int lay(int column, int suit, int rank) {
        if (!isColumn(column) || !deck.has(suit, rank)) {
            return BAD;
        }
        int card = deck.cardOf(suit, rank);
        if ((laidCards & 1 << card) != 0) {
            return STATE;
        }
        stand.push(column, card);
        laidCards |= 1 << card;
        history.restart(stand);
        return Integer.bitCount(laidCards);
    }

    public int make(int seed) {
        emptyTable();
        int s = seed;
        for (int rank = 1; rank <= deck.ranks; rank++) {
            for (int suit = 0; suit < deck.suits; suit++) {
                s = s * 1103515245 + 12345;
                int card = deck.cardOf(suit, rank);
                stand.insert((s >>> 16) % deck.columns, card, s >>> 8 & 3);
                laidCards |= 1 << card;
            }
        }
        history.restart(stand);
        return deck.size();
    }

    public int move(int from, int to) {
        if (!stand.isNamed(from, to)) {
            return BAD;
        }
        if (!allLaid()) {
            return STATE;
        }
        latestWhy = stand.whyNot(from, to);
        if (latestWhy != 0) {
            return 0;
        }
        stand.shift(from, to);
        history.keep(stand);
        return 1;
    }

    public int why() {
        return latestWhy;
    }

    public int carry(int from, int to, int n) {
        if (!isColumn(from) || !isColumn(to) || from == to || n < 1) {
            return BAD;
        }
        if (!allLaid()) {
            return STATE;
        }
        if (!stand.canShiftRow(from, to, n)) {
            return 0;
        }
        stand.shiftRow(from, to, n);
        history.keep(stand);
        return 1;
    }

    public int auto() {
        if (!allLaid()) {
            return STATE;
        }
        int went = 0;
        while (went < MOST_CARDS && stand.sendSafeCard()) {
            went++;
        }
        if (went > 0) {
            history.keep(stand);
        }
        return went;
    }

    public int undo() {
        return history.goBack(stand) ? 1 : NONE;
    }

    public int redo() {
        return history.goOn(stand) ? 1 : NONE;
    }

    public int count(int what) {
        switch (what) {
            case 0: return deck.size();
            case 1: return Integer.bitCount(laidCards);
            case 2: return stand.cardsInHouses();
            case 3: return stand.freeCells();
            case 4: return stand.emptyColumns();
            case 5: return stand.buriedCards();
            case 6: return allLaid() ? stand.possibleMoves() : 0;
            case 7: return history.canGoBack();
            case 8: return stand.isDone() ? 1 : 0;
            case 9: return deck.suits;
            case 10: return deck.ranks;
            case 11: return deck.columns;
            case 12: return deck.cells;
            case 13: return deck.law;
            default: return BAD;
        }
    }

    public int card(int column, int i) {
        if (!isColumn(column)) {
            return BAD;
        }
        return deck.codeOf(stand.cardAt(column, i));
    }

    public int cell(int cell) {
        if (!isWithin(cell, 0, deck.cells - 1)) {
            return BAD;
        }
        return deck.codeOf(stand.cells[cell]);
    }

    public int house(int suit) {
        if (!isWithin(suit, 0, deck.suits - 1)) {
            return BAD;
        }
        return stand.houses[suit];
    }

    public int lets(int card, int onto) {
        if (!deck.hasCode(card) || onto != 0 && !deck.hasCode(onto)) {
            return BAD;
        }
        int target = onto == 0 ? 0 : deck.cardOfCode(onto);
        return deck.allows(deck.cardOfCode(card), target) ? 1 : 0;
    }

    public int solve(int bound) {
        if (!isWithin(bound, 1, MOST_BOUND)) {
            return BAD;
        }
        if (!allLaid()) {
            return NOT_READY;
        }
        int answer = search.fewestMoves(stand, deck.cells, bound);
        if (answer >= 0) {
            // copied out, since needs() uses the search's rows again and must not change the plan
            search.writePlan(latestPlan, answer);
        }
        return answer;
    }

    public int plan(int i, int what) {
        if (!isWithin(what, 0, 1)) {
            return BAD;
        }
        if (!isWithin(i, 0, latestPlan.size - 1)) {
            return NONE;
        }
        return what == 0 ? latestPlan.fromAt(i) : latestPlan.toAt(i);
    }

    public int needs(int bound) {
        if (!isWithin(bound, 1, MOST_BOUND)) {
            return BAD;
        }
        if (!allLaid() || stand.freeCells() < deck.cells) {
            return NOT_READY;
        }
        for (int cells = 0; cells <= MOST_CELLS; cells++) {
            int answer = search.fewestMoves(stand, cells, bound);
            if (answer != NONE) {
                return answer == SPENT ? SPENT : cells;
            }
        }
        return NONE;
    }

    public int form(int i) {
        int size = stand.writeForm(formRow);
        return isWithin(i, 0, size - 1) ? formRow[i] : NONE;
    }

    public int put(int tray, int what, int n) {
        boolean numbersFit = isWithin(tray, 0, TRAYS - 1)
                && isWithin(what, HOLDS_NOTHING, HOLDS_TRUTHS)
                && (what != HOLDS_COLUMN || isColumn(n));
        if (!numbersFit) {
            return refuse(NO_SUCH_NUMBER);
        }
        fill(trays[tray], what, n);
        latestStatus = FINE;
        return 1;
    }

    public int forge(int tray, int what, int n) {
        if (!isWithin(tray, 0, TRAYS - 1) || !isWithin(n, -FORGE_LIMIT, FORGE_LIMIT)) {
            return refuse(NO_SUCH_NUMBER);
        }
        Tray thing = trays[tray];
        latestStatus = FINE;
        switch (what) {
            case 0: return kindTakenFor(thing, Math.floorMod(n, LAWS));
            case 1: return numberTakenFrom(thing, HOLDS_COLUMN, n);
            case 2: return numberTakenFrom(thing, HOLDS_FORM, n);
            case 3: return numberTakenFrom(thing, HOLDS_TRUTHS, n);
            case 4: return n < 0 ? refuse(NEGATIVE_SIZE) : n;
            case 5: return sumOfCopy(thing, n);
            case 6: return kindInSuitedRow(thing);
            case 7: return n == 0 ? refuse(DIVIDED_BY_ZERO) : DIVIDED / n;
            case 8: return refuse(IS_NOTHING);
            default: return refuse(NO_SUCH_NUMBER);
        }
    }

    public int status() {
        return latestStatus;
    }

    private static boolean isWithin(int number, int least, int greatest) {
        return number >= least && number <= greatest;
    }

    private boolean isColumn(int column) {
        return isWithin(column, 0, deck.columns - 1);
    }

    private boolean allLaid() {
        return Integer.bitCount(laidCards) == deck.size();
    }

    private void emptyTable() {
        stand.clear(deck.cells);
        history.restart(stand);
        laidCards = 0;
        latestWhy = 0;
        latestPlan.size = 0;
    }

    private void fill(Tray tray, int what, int column) {
        tray.holds = what;
        tray.size = 0;
        switch (what) {
            case HOLDS_LAW:
                tray.law = deck.law;
                break;
            case HOLDS_COLUMN:
                tray.size = stand.writeColumn(column, tray.numbers, 0);
                break;
            case HOLDS_FORM:
                tray.size = stand.writeForm(tray.numbers);
                break;
            case HOLDS_TRUTHS:
                tray.size = stand.writeHoused(tray.numbers);
                break;
            default:
                break;
        }
    }

    private int refuse(int status) {
        latestStatus = status;
        return -1;
    }

    /** Nothing passes for a thing of any kind, as the host lets it, and is refused when asked. */
    private int refusalOf(Tray thing, int kind) {
        if (thing.holds == HOLDS_NOTHING) {
            return IS_NOTHING;
        }
        return thing.holds == kind ? FINE : OTHER_KIND;
    }

    private int kindTakenFor(Tray thing, int law) {
        int refusal = refusalOf(thing, HOLDS_LAW);
        if (refusal != FINE) {
            return refuse(refusal);
        }
        boolean isUnder = (LAWS_ABOVE[thing.law] & 1 << law) != 0;
        return isUnder ? thing.law : refuse(OTHER_KIND);
    }

    private int numberTakenFrom(Tray thing, int kind, int n) {
        int refusal = refusalOf(thing, kind);
        if (refusal != FINE) {
            return refuse(refusal);
        }
        return isWithin(n, 0, thing.size - 1) ? thing.numbers[n] : refuse(OUTSIDE);
    }

    /** The row's other places hold 0, so its sum is that of the copied codes. */
    private int sumOfCopy(Tray thing, int n) {
        int refusal = refusalOf(thing, HOLDS_COLUMN);
        if (refusal != FINE) {
            return refuse(refusal);
        }
        if (n < 0 || 1 + n > thing.size || n + n > COPY_ROW) {
            return refuse(OUTSIDE);
        }
        int sum = 0;
        for (int i = 1; i <= n; i++) {
            sum += thing.numbers[i];
        }
        return sum;
    }

    private int kindInSuitedRow(Tray thing) {
        if (thing.holds == HOLDS_NOTHING) {
            return 0;
        }
        boolean isSuited = thing.holds == HOLDS_LAW
                && (LAWS_ABOVE[thing.law] & 1 << SUITED) != 0;
        return isSuited ? thing.law : refuse(DOES_NOT_FIT);
    }

    /** What a tray holds: the numbers are copies, so that later moves do not change them. */
    private static final class Tray {
        private final short[] numbers = new short[CODES];
        private int holds = HOLDS_NOTHING;
        private int law;
        private int size;
    }

    /** How many cards, columns and cells there are, and what the law allows among them. */
    private static final class Deck {
        private final int[] suitOf = new int[NIBBLES];
        private final int[] rankOf = new int[NIBBLES];
        /** For each card a bit for each card that it may go onto; bit 0 is an empty column. */
        private final int[] targets = new int[NIBBLES];
        private int suits;
        private int ranks;
        private int columns;
        private int cells;
        private int law;

        private void choose(int newSuits, int newRanks, int newColumns, int newCells, int newLaw) {
            suits = newSuits;
            ranks = newRanks;
            columns = newColumns;
            cells = newCells;
            law = newLaw;
            for (int suit = 0; suit < suits; suit++) {
                for (int rank = 1; rank <= ranks; rank++) {
                    int card = cardOf(suit, rank);
                    suitOf[card] = suit;
                    rankOf[card] = rank;
                }
            }
            for (int card = 1; card <= size(); card++) {
                targets[card] = targetsOf(card);
            }
        }

        private int size() {
            return suits * ranks;
        }

        private boolean has(int suit, int rank) {
            return isWithin(suit, 0, suits - 1) && isWithin(rank, 1, ranks);
        }

        private boolean hasCode(int code) {
            return has(code >> 3, code & 7);
        }

        /** The mask changes no card of the deck; it keeps every answer inside the rows. */
        private int cardOf(int suit, int rank) {
            return suit * ranks + rank & CARD_BITS;
        }

        private int cardOfCode(int code) {
            return cardOf(code >> 3, code & 7);
        }

        private int codeOf(int card) {
            return card == 0 ? 0 : 8 * suitOf[card & CARD_BITS] + rankOf[card & CARD_BITS];
        }

        private boolean allows(int card, int onto) {
            return (targets[card & CARD_BITS] & 1 << onto) != 0;
        }

        private int targetsOf(int card) {
            int bits = law != KINGS || rankOf[card] == ranks ? 1 : 0;
            for (int onto = 1; onto <= size(); onto++) {
                if (lawLets(card, onto)) {
                    bits |= 1 << onto;
                }
            }
            return bits;
        }

        private boolean lawLets(int card, int onto) {
            boolean oneHigher = rankOf[onto] == rankOf[card] + 1;
            boolean sameSuit = suitOf[onto] == suitOf[card];
            switch (law) {
                case SUITED:
                    return oneHigher && sameSuit;
                case ROUND:
                    return sameSuit && (oneHigher || closesRound(card, onto));
                case TURNING:
                case KINGS:
                    return oneHigher && suitsTurn(suitOf[card], suitOf[onto]);
                default:
                    return oneHigher;
            }
        }

        private boolean closesRound(int card, int onto) {
            return ranks > 1 && rankOf[card] == ranks && rankOf[onto] == 1;
        }

        private boolean suitsTurn(int suit, int other) {
            return (suit & 1) != (other & 1);
        }
    }

    /** What lies where. */
    private static final class Stand {
        private static final int COLUMN_BITS = 4 * MOST_CARDS, NAME_BITS = 2, NAME = 3;
        private static final int CELLS_TURNED_SHIFT = NAME_BITS * MOST_COLUMNS;

        private final Deck deck;
        /** Four bits a card, the last card of the column lowest. */
        private final long[] columns = new long[MOST_COLUMNS];
        private final int[] sizes = new int[MOST_COLUMNS];
        private final int[] cells = new int[MOST_CELLS];
        private final int[] houses = new int[MOST_SUITS];
        /** The columns in the order of the form; the last bits of each are the column's name. */
        private final long[] order = new long[MOST_COLUMNS];
        /** Not the deck's, since needs() asks what would be with more cells or fewer. */
        private int cellCount;

        private Stand(Deck deck) {
            this.deck = deck;
        }

        private void clear(int newCellCount) {
            cellCount = newCellCount;
            Arrays.fill(columns, 0L);
            Arrays.fill(sizes, 0);
            Arrays.fill(cells, 0);
            Arrays.fill(houses, 0);
        }

        private void push(int column, int card) {
            columns[column] = columns[column] << 4 | card;
            sizes[column]++;
        }

        private void pop(int column) {
            columns[column] >>>= 4;
            sizes[column]--;
        }

        private int lastOf(int column) {
            return (int) columns[column] & CARD_BITS;
        }

        private void insert(int column, int card, int cardsBehind) {
            int bits = 4 * Math.min(cardsBehind, sizes[column]);
            long behind = columns[column] & (1L << bits) - 1;
            columns[column] = (columns[column] >>> bits << 4 | card) << bits | behind;
            sizes[column]++;
        }

        private int cardAt(int column, int i) {
            if (!isWithin(i, 0, sizes[column] - 1)) {
                return 0;
            }
            return (int) (columns[column] >>> 4 * (sizes[column] - 1 - i)) & CARD_BITS;
        }

        private int cardsInHouses() {
            return houses[0] + houses[1] + houses[2] + houses[3];
        }

        private boolean isDone() {
            return cardsInHouses() == deck.size();
        }

        private int firstFreeCell() {
            for (int i = 0; i < cellCount && i < MOST_CELLS; i++) {
                if (cells[i] == 0) {
                    return i;
                }
            }
            return NONE;
        }

        private int freeCells() {
            int free = 0;
            for (int i = 0; i < cellCount && i < MOST_CELLS; i++) {
                free += cells[i] == 0 ? 1 : 0;
            }
            return free;
        }

        private int emptyColumns() {
            int empty = 0;
            for (int column = 0; column < deck.columns; column++) {
                empty += sizes[column] == 0 ? 1 : 0;
            }
            return empty;
        }

        private int buriedCards() {
            int buried = 0;
            for (int column = 0; column < deck.columns; column++) {
                for (int i = 1; i < sizes[column]; i++) {
                    buried += isBuried(column, i) ? 1 : 0;
                }
            }
            return buried;
        }

        private boolean isBuried(int column, int i) {
            int card = cardAt(column, i);
            for (int ahead = 0; ahead < i; ahead++) {
                int other = cardAt(column, ahead);
                if (deck.suitOf[other] == deck.suitOf[card] && deck.rankOf[other] < deck.rankOf[card]) {
                    return true;
                }
            }
            return false;
        }

        private boolean isNamed(int from, int to) {
            boolean fromColumn = isWithin(from, 0, deck.columns - 1);
            boolean fromCell = isWithin(from, FIRST_CELL, FIRST_CELL + cellCount - 1);
            if (to == TO_CELL) {
                return fromColumn;
            }
            boolean toOther = isWithin(to, 0, deck.columns - 1) && to != from;
            return (fromColumn || fromCell) && (toOther || to == TO_HOUSE);
        }

        private int cardFrom(int from) {
            return from < FIRST_CELL ? lastOf(from) : cells[from - FIRST_CELL];
        }

        /** For moves that are named alone. */
        private int whyNot(int from, int to) {
            int card = cardFrom(from);
            if (card == 0) {
                return NO_CARD;
            }
            if (to == TO_CELL) {
                return firstFreeCell() == NONE ? NO_FREE_CELL : 0;
            }
            if (to == TO_HOUSE) {
                return isNextInHouse(card) ? 0 : NOT_NEXT_IN_HOUSE;
            }
            if (deck.allows(card, lastOf(to))) {
                return 0;
            }
            return sizes[to] == 0 ? NOT_TO_EMPTY : NOT_ONTO_CARD;
        }

        private boolean isNextInHouse(int card) {
            return houses[deck.suitOf[card]] == deck.rankOf[card] - 1;
        }

        private int possibleMoves() {
            int moves = 0;
            for (int from = 0; from < PLACES; from++) {
                for (int to = 0; to < PLACES; to++) {
                    moves += isNamed(from, to) && whyNot(from, to) == 0 ? 1 : 0;
                }
            }
            return moves;
        }

        /** Does a move of which whyNot() told that it can be, and answers its card. */
        private int shift(int from, int to) {
            int card = cardFrom(from);
            if (from < FIRST_CELL) {
                pop(from);
            } else {
                cells[from - FIRST_CELL] = 0;
            }
            if (to == TO_HOUSE) {
                houses[deck.suitOf[card]]++;
            } else if (to == TO_CELL) {
                fillFreeCell(card);
            } else {
                push(to, card);
            }
            return card;
        }

        private void shiftBack(int card, int from, int to) {
            if (to == TO_HOUSE) {
                houses[deck.suitOf[card]]--;
            } else if (to == TO_CELL) {
                emptyCellOf(card);
            } else {
                pop(to);
            }
            if (from < FIRST_CELL) {
                push(from, card);
            } else {
                cells[from - FIRST_CELL] = card;
            }
        }

        private void fillFreeCell(int card) {
            int cell = firstFreeCell();
            if (cell != NONE) {
                cells[cell] = card;
            }
        }

        private void emptyCellOf(int card) {
            for (int i = 0; i < MOST_CELLS; i++) {
                if (cells[i] == card) {
                    cells[i] = 0;
                }
            }
        }

        private boolean canShiftRow(int from, int to, int n) {
            int first = sizes[from] - n;
            if (first < 0 || n > longestRow(from, to)) {
                return false;
            }
            for (int i = first + 1; i < sizes[from]; i++) {
                if (!deck.allows(cardAt(from, i), cardAt(from, i - 1))) {
                    return false;
                }
            }
            return deck.allows(cardAt(from, first), lastOf(to));
        }

        private int longestRow(int from, int to) {
            int longest = freeCells() + 1;
            for (int column = 0; column < deck.columns; column++) {
                boolean helps = column != from && column != to && sizes[column] == 0;
                if (helps && deck.law != KINGS) {
                    longest *= 2;
                }
            }
            return longest;
        }

        private void shiftRow(int from, int to, int n) {
            int bits = 4 * n;
            long row = columns[from] & (1L << bits) - 1;
            columns[from] >>>= bits;
            sizes[from] -= n;
            columns[to] = columns[to] << bits | row;
            sizes[to] += n;
        }

        private boolean sendSafeCard() {
            for (int from = 0; from < PLACES; from++) {
                boolean canGo = isNamed(from, TO_HOUSE) && whyNot(from, TO_HOUSE) == 0;
                if (canGo && isSafe(cardFrom(from))) {
                    shift(from, TO_HOUSE);
                    return true;
                }
            }
            return false;
        }

        private boolean isSafe(int card) {
            if (deck.law == SUITED) {
                return true;
            }
            if (deck.law != PLAIN && deck.law != TURNING) {
                return false;
            }
            for (int suit = 0; suit < deck.suits; suit++) {
                boolean matters = deck.law == PLAIN || deck.suitsTurn(suit, deck.suitOf[card]);
                if (matters && houses[suit] < deck.rankOf[card] - 1) {
                    return false;
                }
            }
            return true;
        }

        private int writeColumn(int column, short[] row, int start) {
            for (int i = 0; i < sizes[column] && start + i < row.length; i++) {
                row[start + i] = (short) deck.codeOf(cardAt(column, i));
            }
            return start + sizes[column];
        }

        /** The row has a place for each code: 8 times a suit below 4, and a rank below 7. */
        private int writeHoused(short[] row) {
            Arrays.fill(row, (short) 0);
            for (int suit = 0; suit < deck.suits; suit++) {
                for (int rank = 1; rank <= houses[suit] && rank <= MOST_RANKS; rank++) {
                    row[8 * suit + rank] = 1;
                }
            }
            return CODES;
        }

        private int writeForm(short[] row) {
            sortColumns();
            int size = 0;
            for (int i = 0; i < MOST_COLUMNS; i++) {
                int column = inOrder(i);
                // columns beyond the table's are empty ones here, but are not told
                if (column < deck.columns) {
                    row[size] = (short) sizes[column];
                    size = writeColumn(column, row, size + 1);
                }
            }
            if (cellCount == MOST_CELLS) {
                row[size++] = (short) deck.codeOf(Math.min(cells[0], cells[1]));
            }
            if (cellCount > 0) {
                row[size++] = (short) deck.codeOf(Math.max(cells[0], cells[1]));
            }
            return size;
        }

        /** With the first card of each column highest, the order of the numbers is the form's. */
        private void sortColumns() {
            for (int column = 0; column < MOST_COLUMNS; column++) {
                long aligned = columns[column] << 4 * (MOST_CARDS - sizes[column]);
                long named = aligned << NAME_BITS | column;
                int place = column;
                while (place > 0 && order[place - 1] > named) {
                    order[place] = order[place - 1];
                    place--;
                }
                order[place] = named;
            }
        }

        private int inOrder(int i) {
            return (int) order[i] & NAME;
        }

        /**
         * A number that stands have in common just if they are like: the columns, the first lowest,
         * each with four bits of 0 behind it, then the cells' cards. There is room for these, as a
         * card in a cell is missing in the columns.
         */
        private long formKey() {
            sortColumns();
            long key = 0;
            int bits = 0;
            for (int i = 0; i < MOST_COLUMNS; i++) {
                int column = inOrder(i);
                key |= columns[column] << bits;
                bits += 4 * (sizes[column] + 1);
            }
            long high = Math.max(cells[0], cells[1]);
            long low = Math.min(cells[0], cells[1]);
            return key | (low << 4 | high) << bits;
        }

        /** What the form does not tell of a stand: which column and which cell is which. */
        private int arrangement() {
            sortColumns();
            int names = 0;
            for (int i = 0; i < MOST_COLUMNS; i++) {
                names |= inOrder(i) << NAME_BITS * i;
            }
            int turned = cells[0] < cells[1] ? 1 : 0;
            return turned << CELLS_TURNED_SHIFT | names;
        }

        /** All cards are laid where this is called, so those that lie nowhere are in houses. */
        private void unpack(long formKey, int arrangement) {
            for (int suit = 0; suit < MOST_SUITS; suit++) {
                houses[suit] = suit < deck.suits ? deck.ranks : 0;
            }
            long rest = formKey;
            for (int i = 0; i < MOST_COLUMNS; i++) {
                int column = arrangement >>> NAME_BITS * i & NAME;
                int bits = 0;
                while (bits < COLUMN_BITS && (rest >>> bits & CARD_BITS) != 0) {
                    takeFromHouse((int) (rest >>> bits) & CARD_BITS);
                    bits += 4;
                }
                columns[column] = rest & (1L << bits) - 1;
                sizes[column] = bits / 4;
                rest >>>= bits + 4;
            }
            int turned = arrangement >>> CELLS_TURNED_SHIFT & 1;
            cells[turned] = (int) rest & CARD_BITS;
            cells[1 - turned] = (int) (rest >>> 4) & CARD_BITS;
            takeFromHouse(cells[0]);
            takeFromHouse(cells[1]);
        }

        private void takeFromHouse(int card) {
            if (card != 0) {
                houses[deck.suitOf[card]]--;
            }
        }
    }

    /** The stands behind what was done: 64 to go back to, and the present one. */
    private static final class History {
        private static final int KEPT = 64;

        private final long[] forms = new long[KEPT + 1];
        private final int[] arrangements = new int[KEPT + 1];
        private int present;
        private int latest;

        private void restart(Stand stand) {
            present = 0;
            latest = 0;
            write(stand);
        }

        private void keep(Stand stand) {
            if (present < KEPT) {
                present++;
            } else {
                System.arraycopy(forms, 1, forms, 0, KEPT);
                System.arraycopy(arrangements, 1, arrangements, 0, KEPT);
            }
            latest = present;
            write(stand);
        }

        private int canGoBack() {
            return present;
        }

        private boolean goBack(Stand stand) {
            if (present == 0) {
                return false;
            }
            present--;
            stand.unpack(forms[present], arrangements[present]);
            return true;
        }

        private boolean goOn(Stand stand) {
            if (present >= latest) {
                return false;
            }
            present++;
            stand.unpack(forms[present], arrangements[present]);
            return true;
        }

        private void write(Stand stand) {
            forms[present] = stand.formKey();
            arrangements[present] = stand.arrangement();
        }
    }

    /** From and to of each move in a byte, eight moves a long: rows are counted by elements. */
    private static final class Plan {
        private static final int IN_LONG = 8, MOVE_BITS = 255;

        /** The forms on the way are met within the bound, so a plan is no longer than that. */
        private final long[] moves = new long[MOST_BOUND / IN_LONG];
        private int size;

        private void write(int i, int move) {
            int bits = 8 * (i % IN_LONG);
            long others = moves[i / IN_LONG] & ~((long) MOVE_BITS << bits);
            moves[i / IN_LONG] = others | (long) move << bits;
        }

        private int moveAt(int i) {
            return (int) (moves[i / IN_LONG] >>> 8 * (i % IN_LONG)) & MOVE_BITS;
        }

        private int fromAt(int i) {
            return moveAt(i) >> 3;
        }

        private int toAt(int i) {
            return moveAt(i) & 7;
        }
    }

    /**
     * Looks for the fewest moves, form by form, level by level. Forms are reached in the order of
     * the least rows of moves that lead to them, since moves are tried from the least from and to
     * on; so the first row that is found to lead to the end is the plan.
     */
    private static final class Search {
        private static final int CHAIN_NAME_BITS = 10, CHAINS = 1 << CHAIN_NAME_BITS;
        private static final long SPREAD = 0x9E3779B97F4A7C15L;

        /** Where what is told of a form stands in its long; 12 bits hold a number up to a bound. */
        private static final int MOVE = 63, PARENT_SHIFT = 6, INDEX = 4095;
        private static final int ARRANGEMENT_SHIFT = 18, ARRANGEMENT = 511, NEXT_SHIFT = 27;

        private final Stand work;
        private final long[] forms = new long[MOST_BOUND];
        /** Of each form: by which move it was met, from which form, as which stand; its chain's next. */
        private final long[] told = new long[MOST_BOUND];
        /** Of the forms that share a chain, the latest: its index and 1, so 0 if there is none. */
        private final short[] chains = new short[CHAINS];
        private int known;
        private int most;
        private boolean spent;
        private int lastParent;
        private int lastMove;

        private Search(Deck deck) {
            work = new Stand(deck);
        }

        private int fewestMoves(Stand start, int cellCount, int bound) {
            if (start.isDone()) {
                return 0;
            }
            restart(start, cellCount, bound);
            int next = 0;
            // each level has a form of its own, so there are no more levels than forms
            for (int depth = 1; depth <= MOST_BOUND; depth++) {
                int levelEnd = known;
                for (; next < levelEnd; next++) {
                    if (leadsToEnd(next)) {
                        return depth;
                    }
                }
                if (spent) {
                    return SPENT;
                }
                if (known == levelEnd) {
                    return NONE;
                }
            }
            return SPENT;
        }

        private void restart(Stand start, int cellCount, int bound) {
            Arrays.fill(chains, (short) 0);
            known = 0;
            most = Math.min(bound, MOST_BOUND);
            spent = false;
            work.cellCount = cellCount;
            work.unpack(start.formKey(), start.arrangement());
            meet(0, 0);
        }

        private boolean leadsToEnd(int index) {
            work.unpack(forms[index], (int) (told[index] >>> ARRANGEMENT_SHIFT) & ARRANGEMENT);
            for (int from = 0; from < PLACES; from++) {
                boolean hasCard = work.cardFrom(from) != 0;
                for (int to = 0; hasCard && to < PLACES; to++) {
                    boolean canBe = work.isNamed(from, to) && work.whyNot(from, to) == 0;
                    if (canBe && endsBy(index, from, to)) {
                        return true;
                    }
                }
            }
            return false;
        }

        private boolean endsBy(int index, int from, int to) {
            int move = from << 3 | to;
            int card = work.shift(from, to);
            boolean done = work.isDone();
            if (done) {
                lastParent = index;
                lastMove = move;
            } else if (!spent) {
                meet(index, move);
            }
            work.shiftBack(card, from, to);
            return done;
        }

        private void meet(int parent, int move) {
            long form = work.formKey();
            int chain = (int) (form * SPREAD >>> 64 - CHAIN_NAME_BITS);
            if (isMet(form, chain)) {
                return;
            }
            if (known >= most) {
                spent = true;
                return;
            }
            forms[known] = form;
            told[known] = (long) chains[chain] << NEXT_SHIFT
                    | (long) work.arrangement() << ARRANGEMENT_SHIFT
                    | parent << PARENT_SHIFT | move;
            known++;
            chains[chain] = (short) known;
        }

        private boolean isMet(long form, int chain) {
            int index = chains[chain] - 1;
            for (int tries = 0; tries < known && index >= 0; tries++) {
                if (forms[index] == form) {
                    return true;
                }
                index = ((int) (told[index] >>> NEXT_SHIFT) & INDEX) - 1;
            }
            return false;
        }

        private void writePlan(Plan plan, int size) {
            plan.size = size;
            int index = lastParent;
            int move = lastMove;
            for (int i = size - 1; i >= 0; i--) {
                plan.write(i, move);
                move = (int) told[index] & MOVE;
                index = (int) (told[index] >>> PARENT_SHIFT) & INDEX;
            }
        }
    }
}
