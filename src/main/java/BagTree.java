import java.util.NoSuchElementException;

/**
 * Kept answers of query trees as signed bags: select, join, group, distinct and union passing
 * differences, rings to a fixed point. All rows are made with the object and used again, so that
 * no later call needs room of its own.
 */
public final class BagTree {
    public static final int NONE = -1;

    private static final int TAPE_LIMIT = 936;
    private static final int PLAN_LIMIT = 900;
    private static final int RELATION_LIMIT = 16;
    private static final int COLUMN_LIMIT = 4;
    private static final int TUPLE_LIMIT = 120;
    private static final int PAIR_LIMIT = 1500;
    private static final int ROUND_LIMIT = 40;
    private static final int CHANGE_LIMIT = 40;
    private static final int AMOUNT_LIMIT = 9;
    private static final int UNDO_LIMIT = 8;

    private static final int BELOW_ZERO = -2;
    private static final int TOO_MANY_TUPLES = -3;
    private static final int TOO_MANY_ROUNDS = -4;

    /** The number of a word here is its number below; those up to ring are the kinds of relations. */
    private static final String WORDS =
            "table select project join union minus distinct group ring view where and on by with keep count sum least most ";
    private static final int TABLE = 0;
    private static final int SELECT = 1;
    private static final int PROJECT = 2;
    private static final int JOIN = 3;
    private static final int UNION = 4;
    private static final int MINUS = 5;
    private static final int DISTINCT = 6;
    private static final int GROUP = 7;
    private static final int RING = 8;
    private static final int VIEW = 9;
    private static final int WHERE = 10;
    private static final int AND = 11;
    private static final int ON = 12;
    private static final int BY = 13;
    private static final int WITH = 14;
    private static final int KEEP = 15;
    private static final int COUNT = 16;
    private static final int SUM = 17;
    private static final int LEAST = 18;
    private static final int MOST = 19;

    private final byte[] tape = new byte[TAPE_LIMIT];
    private int tapeLength;

    private final Parser parser = new Parser();
    private Plan plan = new Plan();
    private final Reckoner reckoner = new Reckoner();

    private Rows[] bags = newBags(TUPLE_LIMIT);
    private Rows[] nextBags = newBags(TUPLE_LIMIT);
    private final Rows[] movedBags = newBags(2 * TUPLE_LIMIT);

    private final Rows batch = new Rows(Rows.CHANGE_KEYS, CHANGE_LIMIT);
    private final Rows noChanges = new Rows(Rows.CHANGE_KEYS, CHANGE_LIMIT);
    private final Rows tableChanges = new Rows(Rows.TUPLE_KEYS, CHANGE_LIMIT);
    private final Rows scratch = new Rows(Rows.TUPLE_KEYS, 2 * TUPLE_LIMIT);
    private final int[] key = new int[Rows.CHANGE_KEYS];

    private final Rows[] history = newHistory();
    private int historyEnd;
    private int undoable;
    private int done;
    private int refused;

    public BagTree() {
    }

    private static Rows[] newBags(int limit) {
        Rows[] made = new Rows[RELATION_LIMIT];
        for (int r = 0; r < RELATION_LIMIT; r++) {
            made[r] = new Rows(Rows.TUPLE_KEYS, limit);
        }
        return made;
    }

    private static Rows[] newHistory() {
        Rows[] made = new Rows[UNDO_LIMIT];
        for (int k = 0; k < UNDO_LIMIT; k++) {
            made[k] = new Rows(Rows.CHANGE_KEYS, CHANGE_LIMIT);
        }
        return made;
    }

    // ---- the tape and the plan

    public int feed(long a, long b, long c) {
        if (tapeLength + 24 > TAPE_LIMIT) {
            return NONE;
        }
        putBytes(a);
        putBytes(b);
        putBytes(c);
        return tapeLength;
    }

    private void putBytes(long eight) {
        for (int shift = 56; shift >= 0; shift -= 8) {
            tape[tapeLength] = (byte) (eight >>> shift);
            tapeLength++;
        }
    }

    public int end(int n) {
        if (n < 0 || n > tapeLength) {
            return NONE;
        }
        tapeLength = n;
        return n;
    }

    public int plan() {
        int textLength = tapeLength;
        // The tape is empty behind every plan(), whatever it answers.
        tapeLength = 0;
        if (textLength > PLAN_LIMIT) {
            return NONE;
        }
        int fault = parser.parse(tape, textLength);
        if (fault != 0) {
            return -2 - fault;
        }
        plan = parser.exchangePlan(plan);
        startAnew();
        return plan.length;
    }

    private void startAnew() {
        for (int r = 0; r < RELATION_LIMIT; r++) {
            bags[r].length = 0;
            movedBags[r].length = 0;
        }
        batch.length = 0;
        undoable = 0;
        done = 0;
        refused = 0;
    }

    private boolean isRelation(int relation) {
        return relation >= 0 && relation < plan.length;
    }

    private boolean isRing(int relation) {
        return isRelation(relation) && plan.lines[relation].kind == RING;
    }

    // ---- the batch

    public int change(int table, int a, int b, int c, int d, int n) {
        if (table < 0 || table >= plan.tables) {
            return NONE;
        }
        if (n < -AMOUNT_LIMIT || n > AMOUNT_LIMIT || n == 0) {
            return NONE;
        }
        int columns = plan.lines[table].columns;
        key[0] = table;
        key[1] = a;
        key[2] = columns > 1 ? b : 0;
        key[3] = columns > 2 ? c : 0;
        key[4] = columns > 3 ? d : 0;
        return batch.addAmount(key, n) ? batch.length : NONE;
    }

    public int pending(int i, int what) throws NoSuchElementException {
        if (i == NONE) {
            return batch.length;
        }
        if (i < 0 || i >= batch.length || what < 0 || what > 5) {
            throw new NoSuchElementException("no such change");
        }
        int columns = plan.lines[batch.cell(i, 0)].columns;
        if (what > columns && what < 5) {
            throw new NoSuchElementException("no such column");
        }
        return batch.cell(i, what);
    }

    public int cancel() {
        int had = batch.length;
        batch.length = 0;
        return had;
    }

    public int commit() {
        int code = reckonNext(batch, 1);
        if (code == 0) {
            remember(batch);
            done++;
            takeNext();
            code = movedInViews();
        } else {
            refused++;
        }
        batch.length = 0;
        return code;
    }

    public int would(int relation) {
        if (!isRelation(relation)) {
            return NONE;
        }
        int code = reckonNext(batch, 1);
        return code != 0 ? code : nextBags[relation].length;
    }

    public int undo() {
        if (undoable == 0) {
            return NONE;
        }
        undoable--;
        historyEnd = (historyEnd + UNDO_LIMIT - 1) % UNDO_LIMIT;
        reckonNext(history[historyEnd], -1);
        takeNext();
        return undoable;
    }

    private void remember(Rows changes) {
        history[historyEnd].copyFrom(changes);
        historyEnd = (historyEnd + 1) % UNDO_LIMIT;
        undoable = Math.min(undoable + 1, UNDO_LIMIT);
    }

    /** Fills nextBags with all relations as they were behind sign times the changes; 0, or why it is refused. */
    private int reckonNext(Rows changes, int sign) {
        if (fallsBelowZero(changes, sign)) {
            return BELOW_ZERO;
        }
        for (int r = 0; r < plan.tables; r++) {
            pickChanges(changes, r);
            if (!nextBags[r].gather(bags[r], tableChanges, sign)) {
                return TOO_MANY_TUPLES;
            }
        }
        for (int r = plan.tables; r < plan.length; r++) {
            int code = reckoner.reckon(plan.lines[r], nextBags, nextBags[r]);
            if (code != 0) {
                return code;
            }
        }
        return 0;
    }

    private boolean fallsBelowZero(Rows changes, int sign) {
        for (int i = 0; i < changes.length; i++) {
            changes.copyKey(i, 1, key);
            int had = bags[changes.cell(i, 0)].amountOf(key);
            if (had + sign * changes.amount(i) < 0) {
                return true;
            }
        }
        return false;
    }

    /** The changes of one table are in the order of its tuples already, since the batch is in order. */
    private void pickChanges(Rows changes, int table) {
        tableChanges.length = 0;
        for (int i = 0; i < changes.length; i++) {
            if (changes.cell(i, 0) == table) {
                changes.copyKey(i, 1, key);
                tableChanges.insert(tableChanges.length, key, changes.amount(i));
            }
        }
    }

    private void takeNext() {
        for (int r = 0; r < plan.length; r++) {
            movedBags[r].gather(nextBags[r], bags[r], -1);
        }
        Rows[] old = bags;
        bags = nextBags;
        nextBags = old;
    }

    // ---- what relations have

    public int size(int relation) {
        return isRelation(relation) ? bags[relation].length : NONE;
    }

    public int at(int relation, int i, int what) throws NoSuchElementException {
        if (!isRelation(relation)) {
            throw new NoSuchElementException("no such relation");
        }
        return tupleCell(bags[relation], plan.lines[relation].columns, i, what);
    }

    private static int tupleCell(Rows rows, int columns, int i, int what) {
        if (i < 0 || i >= rows.length) {
            throw new NoSuchElementException("no such tuple");
        }
        if (what == COLUMN_LIMIT) {
            return rows.amount(i);
        }
        if (what < 0 || what >= columns) {
            throw new NoSuchElementException("no such column");
        }
        return rows.cell(i, what);
    }

    public int count(int relation, int a, int b, int c, int d) throws NoSuchElementException {
        if (!isRelation(relation)) {
            throw new NoSuchElementException("no such relation");
        }
        setKey(plan.lines[relation].columns, a, b, c, d);
        return bags[relation].amountOf(key);
    }

    /** Cells of columns that a relation has not are 0 everywhere. */
    private void setKey(int columns, int a, int b, int c, int d) {
        key[0] = a;
        key[1] = columns > 1 ? b : 0;
        key[2] = columns > 2 ? c : 0;
        key[3] = columns > 3 ? d : 0;
    }

    public int total(int relation) throws NoSuchElementException {
        if (!isRelation(relation)) {
            throw new NoSuchElementException("no such relation");
        }
        Rows bag = bags[relation];
        int sum = 0;
        for (int i = 0; i < bag.length; i++) {
            sum += bag.amount(i);
        }
        return sum;
    }

    public int column(int relation, int column, int what) throws NoSuchElementException {
        if (!isRelation(relation)) {
            throw new NoSuchElementException("no such relation");
        }
        if (column < 0 || column >= plan.lines[relation].columns || what < 0 || what > 2) {
            throw new NoSuchElementException("no such column");
        }
        gatherValues(bags[relation], column);
        if (what == 2) {
            return scratch.length;
        }
        if (scratch.length == 0) {
            throw new NoSuchElementException("no tuples");
        }
        return scratch.cell(what == 0 ? 0 : scratch.length - 1, 0);
    }

    private void gatherValues(Rows bag, int column) {
        scratch.length = 0;
        setKey(1, 0, 0, 0, 0);
        for (int i = 0; i < bag.length; i++) {
            key[0] = bag.cell(i, column);
            scratch.addAmount(key, 1);
        }
    }

    // ---- what the latest batch did

    public int moved(int relation) {
        return isRelation(relation) ? movedBags[relation].length : NONE;
    }

    public int movedAt(int relation, int i, int what) throws NoSuchElementException {
        if (!isRelation(relation)) {
            throw new NoSuchElementException("no such relation");
        }
        return tupleCell(movedBags[relation], plan.lines[relation].columns, i, what);
    }

    public int came(int relation) {
        return isRelation(relation) && relation >= plan.tables ? cameTo(plan.lines[relation]) : NONE;
    }

    private int cameTo(Line line) {
        int sum = line.first == NONE ? 0 : movedBags[line.first].length;
        return sum + (line.second == NONE ? 0 : movedBags[line.second].length);
    }

    private int movedInViews() {
        int sum = 0;
        for (int r = plan.tables; r < plan.length; r++) {
            sum += movedBags[r].length;
        }
        return sum;
    }

    private int cameToViews() {
        int sum = 0;
        for (int r = plan.tables; r < plan.length; r++) {
            sum += cameTo(plan.lines[r]);
        }
        return sum;
    }

    private int tuplesOfViews() {
        int sum = 0;
        for (int r = plan.tables; r < plan.length; r++) {
            sum += bags[r].length;
        }
        return sum;
    }

    // ---- rings

    public int round(int relation, int a, int b, int c, int d) {
        if (!isRing(relation)) {
            return NONE;
        }
        setKey(plan.lines[relation].columns, a, b, c, d);
        int row = bags[relation].find(key);
        return row < 0 ? NONE : bags[relation].cell(row, Rows.MARK);
    }

    public int rounds(int relation) {
        if (!isRing(relation)) {
            return NONE;
        }
        Rows bag = bags[relation];
        int last = 0;
        for (int i = 0; i < bag.length; i++) {
            last = Math.max(last, bag.cell(i, Rows.MARK));
        }
        return last;
    }

    // ---- what the plan tells

    public int differs(int relation) {
        if (!isRelation(relation)) {
            return NONE;
        }
        reckonNext(noChanges, 1);
        scratch.gather(nextBags[relation], bags[relation], -1);
        return scratch.length;
    }

    public int of(int relation, int what) {
        if (!isRelation(relation)) {
            return NONE;
        }
        Line line = plan.lines[relation];
        switch (what) {
            case 0:
                return line.kind;
            case 1:
                return line.columns;
            case 2:
                return line.first;
            case 3:
                return line.second;
            case 4:
                return line.hangsOn;
            case 5:
                return plan.hangingOn(relation);
            case 6:
                return line.distance;
            case 7:
                return line.firstLetter();
            case 8:
                return line.lastLetter();
            default:
                return NONE;
        }
    }

    public int told(int what) {
        switch (what) {
            case 0:
                return plan.tables;
            case 1:
                return plan.length - plan.tables;
            case 2:
                return done;
            case 3:
                return refused;
            case 4:
                return undoable;
            case 5:
                return batch.length;
            case 6:
                return tuplesOfViews();
            case 7:
                return movedInViews();
            case 8:
                return cameToViews();
            case 9:
                return tapeLength;
            default:
                return NONE;
        }
    }

    /**
     * Rows of ints in order, no two with like keys: the keys of a row, behind them its amount. A bag
     * has four keys and behind the amount a mark; a batch has a table's number ahead of the four, and
     * its amount stands where the mark of a bag does.
     */
    private static final class Rows {
        static final int TUPLE_KEYS = 4;
        static final int CHANGE_KEYS = 5;
        static final int MARK = 5;
        static final int WIDTH = 6;

        final int keys;
        final int limit;
        final int[] cells;
        int length;

        Rows(int keys, int limit) {
            this.keys = keys;
            this.limit = limit;
            this.cells = new int[limit * WIDTH];
        }

        int cell(int row, int place) {
            return cells[row * WIDTH + place];
        }

        void setCell(int row, int place, int value) {
            cells[row * WIDTH + place] = value;
        }

        int amount(int row) {
            return cells[row * WIDTH + keys];
        }

        int amountOf(int[] key) {
            int row = find(key);
            return row < 0 ? 0 : amount(row);
        }

        /** Fills a key with the keys of a row from one of them on. */
        void copyKey(int row, int from, int[] key) {
            System.arraycopy(cells, row * WIDTH + from, key, 0, keys - from);
        }

        /** The row of a key, or -1 less the place where it would come. */
        int find(int[] key) {
            int low = 0;
            int high = length;
            while (low < high) {
                int middle = (low + high) >>> 1;
                int order = compareRow(middle, key, 0);
                if (order == 0) {
                    return middle;
                }
                if (order < 0) {
                    low = middle + 1;
                } else {
                    high = middle;
                }
            }
            return -1 - low;
        }

        private int compareRow(int row, int[] others, int from) {
            int start = row * WIDTH;
            for (int k = 0; k < keys; k++) {
                int mine = cells[start + k];
                int other = others[from + k];
                if (mine != other) {
                    return mine < other ? -1 : 1;
                }
            }
            return 0;
        }

        /** The amount of a key is more by n, a row of 0 is none; false: there is no place for one more. */
        boolean addAmount(int[] key, int n) {
            int row = find(key);
            if (row < 0) {
                return n == 0 || insert(-1 - row, key, n);
            }
            int sum = amount(row) + n;
            if (sum == 0) {
                removeRow(row);
            } else {
                setCell(row, keys, sum);
            }
            return true;
        }

        boolean insert(int row, int[] key, int n) {
            if (length >= limit || row < 0 || row > length) {
                return false;
            }
            int start = row * WIDTH;
            System.arraycopy(cells, start, cells, start + WIDTH, (length - row) * WIDTH);
            System.arraycopy(key, 0, cells, start, keys);
            cells[start + MARK] = 0;
            cells[start + keys] = n;
            length++;
            return true;
        }

        private void removeRow(int row) {
            int start = row * WIDTH;
            length--;
            System.arraycopy(cells, start + WIDTH, cells, start, (length - row) * WIDTH);
        }

        /** A row of another comes behind all of these; false: there is no place. */
        boolean append(Rows other, int row, int n) {
            if (length >= limit) {
                return false;
            }
            int start = length * WIDTH;
            System.arraycopy(other.cells, row * WIDTH, cells, start, keys);
            cells[start + MARK] = 0;
            cells[start + keys] = n;
            length++;
            return true;
        }

        void copyFrom(Rows other) {
            length = Math.min(other.length, limit);
            System.arraycopy(other.cells, 0, cells, 0, length * WIDTH);
        }

        /** Has then the amounts of a and sign times those of b together; false: they are too many. */
        boolean gather(Rows a, Rows b, int sign) {
            length = 0;
            int i = 0;
            int j = 0;
            while (i < a.length || j < b.length) {
                int order = orderOfHeads(a, i, b, j);
                Rows ahead = order <= 0 ? a : b;
                int row = order <= 0 ? i : j;
                int n = 0;
                if (order <= 0) {
                    n += a.amount(i);
                    i++;
                }
                if (order >= 0) {
                    n += sign * b.amount(j);
                    j++;
                }
                if (n != 0 && !append(ahead, row, n)) {
                    return false;
                }
            }
            return true;
        }

        private static int orderOfHeads(Rows a, int i, Rows b, int j) {
            if (i >= a.length) {
                return 1;
            }
            if (j >= b.length) {
                return -1;
            }
            return a.compareRow(i, b.cells, j * WIDTH);
        }
    }

    /** What one line of a plan tells of its relation. */
    private static final class Line {
        static final int TEST_LIMIT = 8;
        static final int TEST_WIDTH = 4;

        int kind;
        long name;
        int columns;
        int first;
        int second;
        int firstColumns;
        int secondColumns;
        /** Tests (column, sign, column or NONE, number), terms (column or NONE, number), pairs or columns. */
        final int[] parts = new int[TEST_LIMIT * TEST_WIDTH];
        int partCount;
        int onFirst;
        int onSecond;
        int fold;
        int foldColumn;
        int hangsOn;
        int distance;

        void clear(int newKind) {
            kind = newKind;
            columns = 0;
            first = NONE;
            second = NONE;
            firstColumns = 0;
            secondColumns = 0;
            partCount = 0;
            hangsOn = 0;
            distance = 0;
        }

        int lastLetter() {
            return (int) (name & 31);
        }

        int firstLetter() {
            long rest = name;
            for (int k = 0; k < Tokens.WORD_LIMIT && rest > 31; k++) {
                rest >>>= 5;
            }
            return (int) rest;
        }

        void addTest(int column, int sign, int otherColumn, int number) {
            int start = partCount * TEST_WIDTH;
            parts[start] = column;
            parts[start + 1] = sign;
            parts[start + 2] = otherColumn;
            parts[start + 3] = number;
            partCount++;
        }

        boolean holds(int[] cells, int from) {
            for (int k = 0; k < partCount; k++) {
                int start = k * TEST_WIDTH;
                int value = cells[from + parts[start]];
                int other = parts[start + 2] == NONE ? parts[start + 3] : cells[from + parts[start + 2]];
                int sign = parts[start + 1];
                if (sign == '=' ? value != other : sign == '<' ? value >= other : value <= other) {
                    return false;
                }
            }
            return true;
        }

        /** A term (a column or NONE, a number) or a pair of a join. */
        void addTwo(int one, int two) {
            parts[2 * partCount] = one;
            parts[2 * partCount + 1] = two;
            partCount++;
        }

        void fillTerms(int[] cells, int from, int[] key) {
            for (int k = 0; k < partCount; k++) {
                int column = parts[2 * k];
                key[k] = (column == NONE ? 0 : cells[from + column]) + parts[2 * k + 1];
            }
        }

        boolean pairsAreAlike(int[] aCells, int aFrom, int[] bCells, int bFrom) {
            for (int k = 0; k < partCount; k++) {
                if (aCells[aFrom + parts[2 * k]] != bCells[bFrom + parts[2 * k + 1]]) {
                    return false;
                }
            }
            return true;
        }

        /** If a pair of a join tells this column of its second relation. */
        boolean tellsSecond(int column) {
            for (int k = 0; k < partCount; k++) {
                if (parts[2 * k + 1] == column) {
                    return true;
                }
            }
            return false;
        }

        int columnsOfJoin() {
            int sum = firstColumns;
            for (int c = 0; c < secondColumns; c++) {
                sum += tellsSecond(c) ? 0 : 1;
            }
            return sum;
        }

        void addColumn(int column) {
            parts[partCount] = column;
            partCount++;
        }

        boolean hasColumn(int column) {
            for (int k = 0; k < partCount; k++) {
                if (parts[k] == column) {
                    return true;
                }
            }
            return false;
        }
    }

    /** The lines of a plan, tables ahead of views. */
    private static final class Plan {
        final Line[] lines = new Line[RELATION_LIMIT];
        int length;
        int tables;

        Plan() {
            for (int r = 0; r < RELATION_LIMIT; r++) {
                lines[r] = new Line();
            }
        }

        int relationOf(long name) {
            for (int r = 0; r < length; r++) {
                if (lines[r].name == name) {
                    return r;
                }
            }
            return NONE;
        }

        int hangingOn(int relation) {
            int bits = 0;
            for (int r = 0; r < length; r++) {
                bits |= ((lines[r].hangsOn >>> relation) & 1) << r;
            }
            return bits;
        }

        /** The line behind the others is told to its end. */
        void keepLine() {
            Line line = lines[length];
            if (line.kind == TABLE) {
                tables++;
            }
            hang(line, line.first);
            hang(line, line.second);
            length++;
        }

        private void hang(Line line, int relation) {
            if (relation != NONE) {
                line.hangsOn |= lines[relation].hangsOn | 1 << relation;
                line.distance = Math.max(line.distance, lines[relation].distance + 1);
            }
        }
    }

    /** The tokens of a text: of each its kind, its place and what it says. */
    private static final class Tokens {
        /** A sign's kind is the sign itself, so these are none of the signs. */
        static final int END = 0;
        static final int BAD = 1;
        static final int COLUMN = 2;
        static final int WORD = 3;
        static final int NUMBER = 4;

        static final int WORD_LIMIT = 8;
        static final int NUMBER_LIMIT = 4;
        static final String SIGNS = "=<>+-,;";

        final int[] kinds = new int[PLAN_LIMIT + 1];
        final int[] places = new int[PLAN_LIMIT + 1];
        /** A column's or a number's value, the number of a word of the language (NONE: another word). */
        final int[] values = new int[PLAN_LIMIT + 1];
        /** The letters of a word, five bits each. */
        final long[] names = new long[PLAN_LIMIT + 1];
        int length;

        void read(byte[] text, int textLength) {
            length = 0;
            int i = 0;
            while (i < textLength) {
                int from = i;
                i++;
                if (isRunSign(text[from])) {
                    while (i < textLength && isRunSign(text[i])) {
                        i++;
                    }
                    readRun(text, from, i);
                } else if (text[from] != ' ' && text[from] != '\n') {
                    boolean known = text[from] > 0 && SIGNS.indexOf((char) text[from]) >= 0;
                    addToken(known ? text[from] : BAD, from, 0, 0);
                }
            }
            addToken(END, textLength, 0, 0);
        }

        private void addToken(int kind, int place, int value, long name) {
            kinds[length] = kind;
            places[length] = place;
            values[length] = value;
            names[length] = name;
            length++;
        }

        private static boolean isDigit(int sign) {
            return sign >= '0' && sign <= '9';
        }

        private static boolean isRunSign(int sign) {
            return isDigit(sign) || (sign >= 'a' && sign <= 'z');
        }

        private void readRun(byte[] text, int from, int to) {
            int digits = 0;
            for (int i = from; i < to; i++) {
                digits += isDigit(text[i]) ? 1 : 0;
            }
            int run = to - from;
            if (digits == 0 && run <= WORD_LIMIT) {
                addToken(WORD, from, wordNumber(text, from, to), nameOf(text, from, to));
            } else if (digits == run && run <= NUMBER_LIMIT) {
                addToken(NUMBER, from, numberOf(text, from, to), 0);
            } else if (run == 2 && text[from] == 'c' && text[from + 1] >= '0' && text[from + 1] <= '3') {
                addToken(COLUMN, from, text[from + 1] - '0', 0);
            } else {
                addToken(BAD, from, 0, 0);
            }
        }

        private static long nameOf(byte[] text, int from, int to) {
            long name = 0;
            for (int i = from; i < to; i++) {
                name = name << 5 | (text[i] - 'a' + 1);
            }
            return name;
        }

        private static int numberOf(byte[] text, int from, int to) {
            int number = 0;
            for (int i = from; i < to; i++) {
                number = 10 * number + text[i] - '0';
            }
            return number;
        }

        /** The number of the word of the language that these letters are, or NONE. */
        private static int wordNumber(byte[] text, int from, int to) {
            int number = 0;
            int start = 0;
            for (int i = 0; i < WORDS.length(); i++) {
                if (WORDS.charAt(i) == ' ') {
                    if (i - start == to - from && wordsAgree(start, i, text, from)) {
                        return number;
                    }
                    number++;
                    start = i + 1;
                }
            }
            return NONE;
        }

        private static boolean wordsAgree(int start, int stop, byte[] text, int from) {
            for (int k = 0; k < stop - start; k++) {
                if (WORDS.charAt(start + k) != text[from + k]) {
                    return false;
                }
            }
            return true;
        }
    }

    /**
     * Reads a text to a plan of its own. Each reading method answers 0 or the kind of a fault; the fault is
     * always at the token that is looked at, so the kinds of one token are tried from the least on.
     */
    private static final class Parser {
        static final int NOT_HERE = 1;
        static final int BAD_COLUMN = 2;
        static final int BAD_NAME = 3;
        static final int ONE_TOO_MANY = 4;
        static final int UNLIKE = 5;
        static final int TABLE_LATE = 6;

        static final int BY_LIMIT = 3;

        private final Tokens tokens = new Tokens();
        private Plan plan = new Plan();
        private Line line = plan.lines[0];
        private int here;

        /** The plan that was read, for one that is not needed any more. */
        Plan exchangePlan(Plan old) {
            Plan read = plan;
            plan = old;
            return read;
        }

        /** 0, or 8 * place + kind of the first fault. */
        int parse(byte[] text, int textLength) {
            tokens.read(text, textLength);
            plan.length = 0;
            plan.tables = 0;
            here = 0;
            for (int n = 0; n <= RELATION_LIMIT && tokens.kinds[here] != Tokens.END; n++) {
                int fault = readHead();
                if (fault == 0) {
                    fault = readBody();
                }
                if (fault == 0) {
                    fault = readClose();
                }
                if (fault != 0) {
                    return 8 * tokens.places[here] + fault;
                }
                plan.keepLine();
            }
            return 0;
        }

        private boolean isKind(int kind) {
            return tokens.kinds[here] == kind;
        }

        private boolean isWord(int number) {
            return isKind(Tokens.WORD) && tokens.values[here] == number;
        }

        private void step() {
            if (here < tokens.length - 1) {
                here++;
            }
        }

        private int takeKind(int kind) {
            if (!isKind(kind)) {
                return NOT_HERE;
            }
            step();
            return 0;
        }

        private int takeWord(int number) {
            if (!isWord(number)) {
                return NOT_HERE;
            }
            step();
            return 0;
        }

        /** table NAME, or view NAME = and the word of its kind. */
        private int readHead() {
            boolean table = isWord(TABLE);
            if (!table && !isWord(VIEW)) {
                return NOT_HERE;
            }
            if (plan.length >= RELATION_LIMIT) {
                return ONE_TOO_MANY;
            }
            if (table && plan.length > plan.tables) {
                return TABLE_LATE;
            }
            step();
            line = plan.lines[plan.length];
            line.clear(TABLE);
            int fault = readNewName();
            if (fault == 0 && !table) {
                fault = readViewKind();
            }
            return fault;
        }

        private int readNewName() {
            if (!isWord(NONE)) {
                return NOT_HERE;
            }
            long name = tokens.names[here];
            if (plan.relationOf(name) != NONE) {
                return BAD_NAME;
            }
            line.name = name;
            step();
            return 0;
        }

        private int readViewKind() {
            int fault = takeKind('=');
            if (fault != 0) {
                return fault;
            }
            int kind = tokens.values[here];
            if (!isKind(Tokens.WORD) || kind < SELECT || kind > RING) {
                return NOT_HERE;
            }
            line.kind = kind;
            step();
            return 0;
        }

        private int readBody() {
            switch (line.kind) {
                case SELECT:
                    return readSelect();
                case PROJECT:
                    return readProject();
                case JOIN:
                    return readJoin();
                case UNION:
                case MINUS:
                    return readTwoAlike();
                case DISTINCT:
                    return readDistinct();
                case GROUP:
                    return readGroup();
                case RING:
                    return readRing();
                default:
                    return readTableColumns();
            }
        }

        /** The ; of a line, at which faults of the line as a whole are told. */
        private int readClose() {
            if (!isKind(';')) {
                return NOT_HERE;
            }
            if (line.columns > COLUMN_LIMIT) {
                return UNLIKE;
            }
            if (line.kind == RING && ringIsUnlike()) {
                return UNLIKE;
            }
            step();
            return 0;
        }

        private boolean ringIsUnlike() {
            return line.firstColumns + line.secondColumns > COLUMN_LIMIT
                    || line.partCount != line.firstColumns;
        }

        private int readTableColumns() {
            if (!isKind(Tokens.NUMBER)) {
                return NOT_HERE;
            }
            int columns = tokens.values[here];
            if (columns < 1 || columns > COLUMN_LIMIT) {
                return BAD_COLUMN;
            }
            line.columns = columns;
            step();
            return 0;
        }

        private int readFirst() {
            int fault = seeRelation();
            if (fault == 0) {
                line.first = plan.relationOf(tokens.names[here]);
                line.firstColumns = plan.lines[line.first].columns;
                step();
            }
            return fault;
        }

        private int readSecond() {
            int fault = seeRelation();
            if (fault == 0) {
                line.second = plan.relationOf(tokens.names[here]);
                line.secondColumns = plan.lines[line.second].columns;
                step();
            }
            return fault;
        }

        private int seeRelation() {
            if (!isWord(NONE)) {
                return NOT_HERE;
            }
            return plan.relationOf(tokens.names[here]) == NONE ? BAD_NAME : 0;
        }

        private int seeColumn(int columns) {
            if (!isKind(Tokens.COLUMN)) {
                return NOT_HERE;
            }
            return tokens.values[here] >= columns ? BAD_COLUMN : 0;
        }

        private int readSelect() {
            int fault = readFirst();
            if (fault == 0) {
                fault = takeWord(WHERE);
            }
            if (fault == 0) {
                fault = readTests();
            }
            line.columns = line.firstColumns;
            return fault;
        }

        private int readTests() {
            for (int k = 0; k <= Line.TEST_LIMIT; k++) {
                int fault = readTest();
                if (fault != 0 || !isWord(AND)) {
                    return fault;
                }
                step();
            }
            return ONE_TOO_MANY;
        }

        private int readTest() {
            int fault = seeColumn(line.firstColumns);
            if (fault != 0) {
                return fault;
            }
            if (line.partCount >= Line.TEST_LIMIT) {
                return ONE_TOO_MANY;
            }
            int column = tokens.values[here];
            step();
            int sign = tokens.kinds[here];
            if (sign != '=' && sign != '<' && sign != '>') {
                return NOT_HERE;
            }
            step();
            boolean number = isKind(Tokens.NUMBER);
            fault = number ? 0 : seeColumn(line.firstColumns);
            if (fault != 0) {
                return fault;
            }
            int value = tokens.values[here];
            line.addTest(column, sign, number ? NONE : value, value);
            step();
            return 0;
        }

        private int readProject() {
            int fault = readFirst();
            if (fault == 0) {
                fault = readTerms(line.firstColumns);
            }
            line.columns = line.partCount;
            return fault;
        }

        private int readTerms(int columns) {
            for (int k = 0; k <= COLUMN_LIMIT; k++) {
                int fault = readTerm(columns);
                if (fault != 0 || !isKind(',')) {
                    return fault;
                }
                step();
            }
            return ONE_TOO_MANY;
        }

        private int readTerm(int columns) {
            boolean number = isKind(Tokens.NUMBER);
            int fault = number ? 0 : seeColumn(columns);
            if (fault != 0) {
                return fault;
            }
            if (line.partCount >= COLUMN_LIMIT) {
                return ONE_TOO_MANY;
            }
            int value = tokens.values[here];
            step();
            if (number) {
                line.addTwo(NONE, value);
                return 0;
            }
            int sign = tokens.kinds[here];
            if (sign != '+' && sign != '-') {
                line.addTwo(value, 0);
                return 0;
            }
            step();
            if (!isKind(Tokens.NUMBER)) {
                return NOT_HERE;
            }
            line.addTwo(value, sign == '+' ? tokens.values[here] : -tokens.values[here]);
            step();
            return 0;
        }

        private int readJoin() {
            int fault = readFirst();
            if (fault == 0) {
                fault = readSecond();
            }
            if (fault == 0) {
                fault = takeWord(ON);
            }
            if (fault == 0) {
                fault = readPairs();
            }
            line.columns = line.columnsOfJoin();
            return fault;
        }

        private int readPairs() {
            for (int k = 0; k <= COLUMN_LIMIT; k++) {
                int fault = readPair(COLUMN_LIMIT);
                if (fault != 0) {
                    return fault;
                }
                line.addTwo(line.onFirst, line.onSecond);
                if (!isKind(',')) {
                    return 0;
                }
                step();
            }
            return ONE_TOO_MANY;
        }

        /** COLUMN = COLUMN of a join or a ring. */
        private int readPair(int limit) {
            int fault = seeColumn(line.firstColumns);
            if (fault != 0) {
                return fault;
            }
            if (line.partCount >= limit) {
                return ONE_TOO_MANY;
            }
            line.onFirst = tokens.values[here];
            step();
            fault = takeKind('=');
            if (fault == 0) {
                fault = seeColumn(line.secondColumns);
            }
            if (fault == 0) {
                line.onSecond = tokens.values[here];
                step();
            }
            return fault;
        }

        private int readTwoAlike() {
            int fault = readFirst();
            if (fault == 0) {
                fault = seeRelation();
            }
            if (fault != 0) {
                return fault;
            }
            int second = plan.relationOf(tokens.names[here]);
            if (plan.lines[second].columns != line.firstColumns) {
                return UNLIKE;
            }
            line.columns = line.firstColumns;
            return readSecond();
        }

        private int readDistinct() {
            int fault = readFirst();
            line.columns = line.firstColumns;
            return fault;
        }

        private int readGroup() {
            int fault = readFirst();
            if (fault == 0) {
                fault = takeWord(BY);
            }
            if (fault == 0) {
                fault = readByColumns();
            }
            if (fault == 0) {
                fault = readFold();
            }
            line.columns = line.partCount + 1;
            return fault;
        }

        private int readByColumns() {
            for (int k = 0; k <= BY_LIMIT; k++) {
                int fault = readByColumn();
                if (fault != 0 || !isKind(',')) {
                    return fault;
                }
                step();
            }
            return ONE_TOO_MANY;
        }

        private int readByColumn() {
            int fault = seeColumn(line.firstColumns);
            if (fault != 0) {
                return fault;
            }
            int column = tokens.values[here];
            if (line.hasColumn(column)) {
                return BAD_COLUMN;
            }
            if (line.partCount >= BY_LIMIT) {
                return ONE_TOO_MANY;
            }
            line.addColumn(column);
            step();
            return 0;
        }

        private int readFold() {
            int fold = tokens.values[here];
            if (!isKind(Tokens.WORD) || fold < COUNT || fold > MOST) {
                return NOT_HERE;
            }
            line.fold = fold;
            line.foldColumn = 0;
            step();
            if (fold == COUNT) {
                return 0;
            }
            int fault = seeColumn(line.firstColumns);
            if (fault == 0) {
                line.foldColumn = tokens.values[here];
                step();
            }
            return fault;
        }

        private int readRing() {
            int fault = readFirst();
            if (fault == 0) {
                fault = takeWord(WITH);
            }
            if (fault == 0) {
                fault = readSecond();
            }
            if (fault == 0) {
                fault = takeWord(ON);
            }
            if (fault == 0) {
                fault = readPair(1);
            }
            if (fault == 0) {
                fault = takeWord(KEEP);
            }
            if (fault == 0) {
                fault = readTerms(line.firstColumns + line.secondColumns);
            }
            line.columns = line.firstColumns;
            return fault;
        }
    }

    /** Reckons what a view has of what its relations have; answers 0, or why a batch is refused. */
    private static final class Reckoner {
        private final int[] key = new int[Rows.CHANGE_KEYS];
        /** The columns of a tuple of a ring and of one of its second relation, side by side. */
        private final int[] sides = new int[2 * COLUMN_LIMIT];
        /** The tuples of a ring in the order in which they came. */
        private final int[] arrivals = new int[TUPLE_LIMIT * COLUMN_LIMIT];

        int reckon(Line line, Rows[] bags, Rows out) {
            out.length = 0;
            if (line.first == NONE) {
                return 0;
            }
            Rows first = bags[line.first];
            Rows second = line.second == NONE ? first : bags[line.second];
            switch (line.kind) {
                case SELECT:
                    return select(line, first, out);
                case PROJECT:
                    return project(line, first, out);
                case JOIN:
                    return join(line, first, second, out);
                case UNION:
                    return out.gather(first, second, 1) ? 0 : TOO_MANY_TUPLES;
                case MINUS:
                    return out.gather(first, second, -1) ? 0 : TOO_MANY_TUPLES;
                case DISTINCT:
                    return distinct(first, out);
                case GROUP:
                    return group(line, first, out);
                default:
                    return ring(line, first, second, out);
            }
        }

        private void clearKey() {
            for (int k = 0; k < key.length; k++) {
                key[k] = 0;
            }
        }

        private int select(Line line, Rows in, Rows out) {
            for (int i = 0; i < in.length; i++) {
                if (line.holds(in.cells, i * Rows.WIDTH) && !out.append(in, i, in.amount(i))) {
                    return TOO_MANY_TUPLES;
                }
            }
            return 0;
        }

        private int project(Line line, Rows in, Rows out) {
            clearKey();
            for (int i = 0; i < in.length; i++) {
                line.fillTerms(in.cells, i * Rows.WIDTH, key);
                if (!out.addAmount(key, in.amount(i))) {
                    return TOO_MANY_TUPLES;
                }
            }
            return 0;
        }

        private int join(Line line, Rows a, Rows b, Rows out) {
            int pairs = 0;
            clearKey();
            for (int i = 0; i < a.length; i++) {
                for (int j = 0; j < b.length; j++) {
                    if (line.pairsAreAlike(a.cells, i * Rows.WIDTH, b.cells, j * Rows.WIDTH)) {
                        pairs++;
                        fillJoined(line, a, i, b, j);
                        // A product can wrap to 0, so many pairs need not make many tuples.
                        if (pairs > PAIR_LIMIT || !out.addAmount(key, a.amount(i) * b.amount(j))) {
                            return TOO_MANY_TUPLES;
                        }
                    }
                }
            }
            return 0;
        }

        private void fillJoined(Line line, Rows a, int i, Rows b, int j) {
            int filled = 0;
            for (int c = 0; c < line.firstColumns; c++) {
                key[filled] = a.cell(i, c);
                filled++;
            }
            for (int c = 0; c < line.secondColumns && filled < COLUMN_LIMIT; c++) {
                if (!line.tellsSecond(c)) {
                    key[filled] = b.cell(j, c);
                    filled++;
                }
            }
        }

        private int distinct(Rows in, Rows out) {
            for (int i = 0; i < in.length; i++) {
                if (in.amount(i) > 0 && !out.append(in, i, 1)) {
                    return TOO_MANY_TUPLES;
                }
            }
            return 0;
        }

        /** While it gathers, a group's row has 0 in the fold's column, the fold as its amount. */
        private int group(Line line, Rows in, Rows out) {
            clearKey();
            for (int i = 0; i < in.length; i++) {
                for (int k = 0; k < line.partCount; k++) {
                    key[k] = in.cell(i, line.parts[k]);
                }
                int row = out.find(key);
                if (row < 0) {
                    row = -1 - row;
                    if (!out.insert(row, key, 0)) {
                        return TOO_MANY_TUPLES;
                    }
                }
                fold(line.fold, out, row, in.cell(i, line.foldColumn), in.amount(i));
            }
            for (int row = 0; row < out.length; row++) {
                out.setCell(row, line.partCount, out.amount(row));
                out.setCell(row, Rows.TUPLE_KEYS, 1);
                out.setCell(row, Rows.MARK, 0);
            }
            return 0;
        }

        private static void fold(int fold, Rows out, int row, int value, int n) {
            int had = out.amount(row);
            if (fold == COUNT) {
                out.setCell(row, Rows.TUPLE_KEYS, had + n);
            } else if (fold == SUM) {
                out.setCell(row, Rows.TUPLE_KEYS, had + n * value);
            } else if (n > 0) {
                boolean none = out.cell(row, Rows.MARK) == 0;
                if (none || (fold == LEAST ? value < had : value > had)) {
                    out.setCell(row, Rows.TUPLE_KEYS, value);
                }
                out.setCell(row, Rows.MARK, 1);
            }
        }

        private int ring(Line line, Rows first, Rows second, Rows out) {
            clearKey();
            for (int i = 0; i < first.length; i++) {
                if (first.amount(i) > 0) {
                    first.copyKey(i, 0, key);
                    if (!arrive(out, out.length, 0)) {
                        return TOO_MANY_TUPLES;
                    }
                }
            }
            int from = 0;
            for (int round = 1; round <= ROUND_LIMIT + 1 && from < out.length; round++) {
                int to = out.length;
                for (int k = from; k < to; k++) {
                    int code = goOn(line, k, second, out, round);
                    if (code != 0) {
                        return code;
                    }
                }
                from = to;
            }
            return 0;
        }

        /** The tuple in key comes to a ring as that row; false: there is no place. */
        private boolean arrive(Rows out, int row, int round) {
            int arrival = out.length * COLUMN_LIMIT;
            if (!out.insert(row, key, 1)) {
                return false;
            }
            out.setCell(row, Rows.MARK, round);
            System.arraycopy(key, 0, arrivals, arrival, COLUMN_LIMIT);
            return true;
        }

        /** What comes of one tuple of the round ahead. */
        private int goOn(Line line, int arrival, Rows second, Rows out, int round) {
            System.arraycopy(arrivals, arrival * COLUMN_LIMIT, sides, 0, COLUMN_LIMIT);
            int wanted = sides[line.onFirst];
            for (int j = 0; j < second.length; j++) {
                if (second.amount(j) <= 0 || second.cell(j, line.onSecond) != wanted) {
                    continue;
                }
                System.arraycopy(second.cells, j * Rows.WIDTH, sides, line.firstColumns, line.secondColumns);
                line.fillTerms(sides, 0, key);
                int row = out.find(key);
                if (row < 0 && round > ROUND_LIMIT) {
                    return TOO_MANY_ROUNDS;
                }
                if (row < 0 && !arrive(out, -1 - row, round)) {
                    return TOO_MANY_TUPLES;
                }
            }
            return 0;
        }
    }
}
