import java.util.NoSuchElementException;

/** A house for groups that are told by a few letters and words that are nothing. */
public final class CosetHouse {
    public static final int NONE = -1;

    private static final int MOST_LETTERS = 5;
    private static final int MOST_COLUMNS = 10;
    private static final int MOST_WORDS = 12;
    private static final int MOST_SUBWORDS = 6;
    private static final int MOST_LONG = 40;
    private static final int MOST_DEEP = 8;
    private static final int MOST_POWER = 99;
    private static final int TAPE_ROOM = 400;
    private static final int FED_BYTES = 20;
    private static final int MOST_ROWS = 300;
    private static final int MOST_MADE = 2000;
    private static final int MOST_STEPS = 2000;
    private static final int SHEET_ROWS = 40;
    private static final int LOW_ROWS = 6;
    private static final int LOW_CELLS = 60;
    private static final int LOW_KEPT = 40;
    private static final int MOST_TRIES = 3000;
    /** Far above what any loop that only a counter ends can need. */
    private static final int MANY = 1000000;
    private static final int BEYOND = 2147483647;

    private static final int EMPTY = -2;
    private static final int OPEN = -2;
    private static final int RIGHT = -2;
    private static final int MELTED = -3;

    private static final int FILL = 0;
    private static final int LOOK = 1;
    private static final int AHEAD = 2;
    private static final int MIXED = 3;
    private static final int SMALL = 4;

    private static final int GOES_ON = 0;
    private static final int CLOSED = 1;
    private static final int SPENT = 2;

    private static final int NO_FAULT = 0;
    private static final int FORM_FAULT = 1;
    private static final int LONG_FAULT = 2;
    private static final int DEEP_FAULT = 3;
    private static final int NUMBER_FAULT = 4;

    private static final int BY_NOTHING = 0;
    private static final int BY_NUMBER = 1;
    private static final int BY_FAULT = 2;
    private static final int BY_ROOM = 3;
    private static final int BY_NONE_SUCH = 4;
    private static final int BY_NO_TABLE = 5;
    private static final int BY_NOT_CLOSED = 6;
    private static final int BY_NONE_KEPT = 7;

    private final byte[] tape = new byte[TAPE_ROOM];
    private int taped = 0;
    private int letterCount = 1;
    private final WordList words = new WordList(MOST_WORDS);
    private final WordList subwords = new WordList(MOST_SUBWORDS);
    private final Word asked = new Word(MOST_LONG);
    private final Reader reader = new Reader();
    private final Table table = new Table();
    private final Filler filler = new Filler();
    private final Walker walker = new Walker();
    private boolean hasTable = false;
    /** Made by the first keep(): most objects never need it. */
    private Table kept = null;
    private boolean hasKept = false;
    private final byte[] told = new byte[MOST_ROWS];
    private int toldLength = 0;
    private final LowSearch lowSearch = new LowSearch();
    private final Sheet page = new Sheet();
    private int why = BY_NOTHING;

    public CosetHouse() {
    }

    // ---- words

    public int feed(int a, int b, int c, int d, int e) {
        if (taped + FED_BYTES > TAPE_ROOM) {
            return NONE;
        }
        tapeNumber(a);
        tapeNumber(b);
        tapeNumber(c);
        tapeNumber(d);
        tapeNumber(e);
        return taped;
    }

    public boolean letters(int n) {
        if (n < 1 || n > MOST_LETTERS) {
            return deny(BY_NUMBER);
        }
        letterCount = n;
        words.clear();
        subwords.clear();
        asked.clear();
        forgetTables();
        return agree();
    }

    public int word(int n) {
        return takeWord(n, words);
    }

    public int sub(int n) {
        return takeWord(n, subwords);
    }

    public boolean drop(boolean sub) {
        if (!listOf(sub).removeLatest()) {
            return deny(BY_NONE_SUCH);
        }
        forgetTables();
        return agree();
    }

    public int letter(int i, int k, boolean sub) {
        Word found = listOf(sub).find(i);
        return found == null ? NONE : found.columnAt(k);
    }

    public int ask(int n) {
        if (!readTape(n)) {
            return NONE;
        }
        asked.become(reader.result());
        return answer(asked.length);
    }

    public int fault() {
        return reader.fault;
    }

    // ---- the table

    public boolean begin(int strategy, int rows) {
        if (strategy < FILL || strategy > SMALL || rows < 1 || rows > MOST_ROWS) {
            return deny(BY_NUMBER);
        }
        table.start(strategy, rows, 2 * letterCount);
        hasTable = true;
        return agree();
    }

    public int step() {
        if (!hasTable) {
            return refuse(BY_NO_TABLE);
        }
        filler.advance(table, words, subwords);
        return answer(table.state);
    }

    public int run(int n) {
        if (!hasTable) {
            return refuse(BY_NO_TABLE);
        }
        if (n < 1 || n > MOST_STEPS) {
            return refuse(BY_NUMBER);
        }
        for (int k = 0; k < n && table.state == GOES_ON; k++) {
            filler.advance(table, words, subwords);
        }
        return answer(table.state);
    }

    public int cell(int row, int column) {
        if (!hasTable || column < 0 || column >= table.columns || row < 0 || row >= table.next) {
            return NONE;
        }
        int slot = table.slotOf(row);
        if (slot == NONE) {
            return MELTED;
        }
        int target = table.get(slot, column);
        return target == EMPTY ? EMPTY : table.numberOf(target);
    }

    public int row(int i) {
        return hasTable ? table.numberInOrder(i) : NONE;
    }

    public int about(int what) {
        if (!hasTable) {
            return NONE;
        }
        switch (what) {
            case 0: return table.left;
            case 1: return table.made;
            case 2: return table.made - table.left;
            case 3: return table.most;
            case 4: return table.steps;
            case 5: return table.countEmpty();
            case 6: return table.state;
            case 7: return table.packs;
            case 8: return table.next;
            case 9: return table.countDone();
            default: return NONE;
        }
    }

    public int index() {
        return isClosed() ? table.left : NONE;
    }

    public boolean rename() {
        if (!isClosed()) {
            return deny(BY_NOT_CLOSED);
        }
        walker.spread(table);
        table.renumberAs(walker.queue, walker.reached);
        return agree();
    }

    public int pack() {
        if (!hasTable) {
            return refuse(BY_NO_TABLE);
        }
        table.renumber();
        return answer(table.left);
    }

    public int lead(int row) {
        int slot = hasTable ? table.slotOf(row) : NONE;
        if (slot == NONE) {
            return NONE;
        }
        int end = table.follow(asked, slot);
        return end == EMPTY ? EMPTY : table.numberOf(end);
    }

    public int is() {
        if (asked.length == 0) {
            return 1;
        }
        if (!hasTable) {
            return OPEN;
        }
        if (isClosed() && !table.isFixedBy(asked)) {
            return 0;
        }
        // What moves no row of a CLOSED table leads from row 0 to it, so one question serves both.
        return subwords.count == 0 && table.follow(asked, 0) == 0 ? 1 : OPEN;
    }

    public int within() {
        if (!hasTable) {
            return NONE;
        }
        if (table.follow(asked, 0) == 0) {
            return 1;
        }
        return isClosed() ? 0 : OPEN;
    }

    public int power() {
        return isClosed() ? walker.orderOf(table, asked) : NONE;
    }

    public int cycles(int letter, int length) {
        if (!isClosed() || letter < 0 || letter >= letterCount) {
            return refuse(BY_NOT_CLOSED);
        }
        return answer(walker.countCycles(table, 2 * letter, length));
    }

    public int least(int row) {
        if (!isClosed()) {
            return refuse(BY_NOT_CLOSED);
        }
        int slot = table.slotOf(row);
        if (slot == NONE) {
            return refuse(BY_NONE_SUCH);
        }
        walker.spread(table);
        toldLength = walker.spell(slot, told);
        return answer(toldLength);
    }

    public int farthest() {
        if (!isClosed()) {
            return refuse(BY_NOT_CLOSED);
        }
        walker.spread(table);
        return answer(walker.farthestNumber(table));
    }

    public int tell(int sort, int i) {
        Word found = sort == 0 ? words.find(i) : sort == 1 ? subwords.find(i) : sort == 2 ? asked : null;
        if (found == null) {
            return refuse(BY_NONE_SUCH);
        }
        toldLength = found.spellInto(told);
        return answer(toldLength);
    }

    public int out(int i) throws NoSuchElementException {
        if (i < 0 || i >= toldLength) {
            throw new NoSuchElementException();
        }
        return told[i];
    }

    // ---- small subgroups

    public int low(int n) {
        if (n < 1 || n > LOW_ROWS) {
            return refuse(BY_NUMBER);
        }
        lowSearch.search(n, 2 * letterCount, words);
        return answer(lowSearch.found);
    }

    public int lowly(int what) {
        if (!lowSearch.hasRun) {
            return NONE;
        }
        if (what == 0) {
            return lowSearch.tries;
        }
        return what == 1 ? (lowSearch.ended ? 1 : 0) : NONE;
    }

    public int small(int i, int row, int column) {
        return lowSearch.cellOfKept(i, row, column);
    }

    public int size(int i) {
        return lowSearch.rowsOfKept(i);
    }

    public int normal(int i) {
        if (lowSearch.rowsOfKept(i) == NONE) {
            return NONE;
        }
        return lowSearch.isKeptNormal(i) ? 1 : 0;
    }

    // ---- kept and told tables

    public boolean keep() {
        if (!hasTable) {
            return deny(BY_NO_TABLE);
        }
        if (kept == null) {
            kept = new Table();
        }
        kept.copyFrom(table);
        hasKept = true;
        return agree();
    }

    public boolean back() {
        if (!hasKept || kept == null) {
            return deny(BY_NONE_KEPT);
        }
        table.copyFrom(kept);
        hasTable = true;
        return agree();
    }

    public boolean sheet(int n) {
        if (n < 0 || n > SHEET_ROWS) {
            return deny(BY_NUMBER);
        }
        page.start(n);
        return agree();
    }

    public boolean put(int row, int column, int v) {
        return page.write(row, column, v) ? agree() : deny(BY_NUMBER);
    }

    public int check() {
        return page.rows == 0 ? NONE : page.firstWrong(2 * letterCount, words, subwords);
    }

    public int trouble() {
        return why;
    }

    public int where() {
        return why == BY_FAULT ? reader.place : NONE;
    }

    // ---- what several calls share

    private int refuse(int reason) {
        why = reason;
        return NONE;
    }

    private boolean deny(int reason) {
        why = reason;
        return false;
    }

    private int answer(int value) {
        why = BY_NOTHING;
        return value;
    }

    private boolean agree() {
        why = BY_NOTHING;
        return true;
    }

    private void tapeNumber(int number) {
        for (int shift = 24; shift >= 0 && taped < TAPE_ROOM; shift -= 8) {
            tape[taped] = (byte) (number >>> shift);
            taped++;
        }
    }

    /** Reads the first n bytes of the TAPE, which leaves it empty; false if that is refused. */
    private boolean readTape(int n) {
        if (n < 0 || n > taped) {
            return deny(BY_NUMBER);
        }
        taped = 0;
        return reader.read(tape, n, letterCount) ? agree() : deny(BY_FAULT);
    }

    private int takeWord(int n, WordList list) {
        if (!readTape(n)) {
            return NONE;
        }
        if (list.isFull()) {
            return refuse(BY_ROOM);
        }
        Word read = reader.result();
        if (read.length > 0) {
            list.add(read);
            forgetTables();
        }
        return answer(read.length);
    }

    private WordList listOf(boolean sub) {
        return sub ? subwords : words;
    }

    /** What is told has changed: no table, and none that was KEPT, is one of it any more. */
    private void forgetTables() {
        hasTable = false;
        hasKept = false;
    }

    private boolean isClosed() {
        return hasTable && table.state == CLOSED;
    }

    /** Letters as columns, brought to their least while they come. */
    private static final class Word {
        final int[] columns;
        int length = 0;

        Word(int room) {
            columns = new int[room];
        }

        void clear() {
            length = 0;
        }

        int columnAt(int k) {
            return k >= 0 && k < length ? columns[k] : NONE;
        }

        /** A column more, or one less if it stands beside itself turned; false if there is no room. */
        boolean join(int column) {
            if (length > 0 && columns[length - 1] == (column ^ 1)) {
                length--;
                return true;
            }
            if (length >= columns.length) {
                return false;
            }
            columns[length] = column;
            length++;
            return true;
        }

        boolean joinWord(Word more) {
            for (int k = 0; k < more.length; k++) {
                if (!join(more.columns[k])) {
                    return false;
                }
            }
            return true;
        }

        boolean joinTurned(Word more) {
            for (int k = more.length - 1; k >= 0; k--) {
                if (!join(more.columns[k] ^ 1)) {
                    return false;
                }
            }
            return true;
        }

        void become(Word model) {
            length = 0;
            joinWord(model);
        }

        void turn() {
            int last = length - 1;
            for (int k = 0; k <= last - k; k++) {
                int column = columns[k];
                columns[k] = columns[last - k] ^ 1;
                columns[last - k] = column ^ 1;
            }
        }

        int spellInto(byte[] bytes) {
            int spelled = Math.min(length, bytes.length);
            for (int k = 0; k < spelled; k++) {
                bytes[k] = byteOf(columns[k]);
            }
            return spelled;
        }

        static byte byteOf(int column) {
            return (byte) ((column % 2 == 0 ? 'a' : 'A') + column / 2);
        }
    }

    /** A few WORDS or SUBWORDS in the order in which they were told. */
    private static final class WordList {
        final Word[] entries;
        int count = 0;

        WordList(int room) {
            entries = new Word[room];
            for (int k = 0; k < room; k++) {
                entries[k] = new Word(MOST_LONG);
            }
        }

        void clear() {
            count = 0;
        }

        boolean isFull() {
            return count >= entries.length;
        }

        void add(Word model) {
            if (count < entries.length) {
                entries[count].become(model);
                count++;
            }
        }

        boolean removeLatest() {
            if (count == 0) {
                return false;
            }
            count--;
            return true;
        }

        Word find(int i) {
            return i >= 0 && i < count ? entries[i] : null;
        }
    }

    /** Reads a text as a WORD; of each depth of brackets it keeps what stands so far. */
    private static final class Reader {
        private final Word[] sums = new Word[MOST_DEEP + 1];
        /** The first WORD of the commutator that is open at a depth, while its second one is read. */
        private final Word[] firsts = new Word[MOST_DEEP + 1];
        /** Wide enough for a commutator as a whole, ahead of being brought to its least. */
        private final Word atom = new Word(4 * MOST_LONG);
        private final Word raised = new Word(MOST_LONG);
        private byte[] text = null;
        private int length = 0;
        private int at = 0;
        private int letterCount = 0;
        private int times = 0;
        int fault = NO_FAULT;
        int place = NONE;

        Reader() {
            for (int depth = 0; depth <= MOST_DEEP; depth++) {
                sums[depth] = new Word(MOST_LONG);
                firsts[depth] = new Word(MOST_LONG);
            }
        }

        boolean read(byte[] bytes, int count, int letters) {
            text = bytes;
            length = Math.min(count, bytes.length);
            letterCount = letters;
            at = 0;
            fault = NO_FAULT;
            place = NONE;
            return readWord(0) && (at >= length || stop(FORM_FAULT, at));
        }

        Word result() {
            return sums[0];
        }

        private boolean stop(int reason, int position) {
            fault = reason;
            place = position;
            return false;
        }

        private int peek() {
            return text != null && at < length ? text[at] & 255 : NONE;
        }

        private void skipBlanks() {
            for (int k = 0; k < TAPE_ROOM && peek() == ' '; k++) {
                at++;
            }
        }

        private int columnOf(int character) {
            if (character >= 'a' && character < 'a' + letterCount) {
                return 2 * (character - 'a');
            }
            if (character >= 'A' && character < 'A' + letterCount) {
                return 2 * (character - 'A') + 1;
            }
            return NONE;
        }

        private boolean beginsFactor(int character) {
            return character == '(' || character == '[' || columnOf(character) != NONE;
        }

        /** Leaves the word in the sum of its depth, and stands at the first byte that is none of it. */
        private boolean readWord(int depth) {
            if (depth < 0 || depth > MOST_DEEP) {
                return stop(DEEP_FAULT, at);
            }
            sums[depth].clear();
            skipBlanks();
            if (peek() == '1') {
                at++;
                skipBlanks();
                return true;
            }
            if (!readFactor(depth)) {
                return false;
            }
            for (int k = 1; k < TAPE_ROOM && beginsFactor(peek()); k++) {
                if (!readFactor(depth)) {
                    return false;
                }
            }
            return true;
        }

        private boolean readFactor(int depth) {
            int start = at;
            if (!readAtom(depth)) {
                return false;
            }
            skipBlanks();
            times = 1;
            if (peek() == '^' && !readPower()) {
                return false;
            }
            return raiseAtom() && sums[depth].joinWord(raised) || stop(LONG_FAULT, start);
        }

        private boolean readAtom(int depth) {
            int character = peek();
            int column = columnOf(character);
            if (column != NONE) {
                at++;
                atom.clear();
                return atom.join(column);
            }
            if (character != '(' && character != '[') {
                return stop(FORM_FAULT, at);
            }
            if (depth >= MOST_DEEP) {
                return stop(DEEP_FAULT, at);
            }
            return character == '(' ? readGroup(depth + 1) : readCommutator(depth + 1);
        }

        private boolean readGroup(int depth) {
            at++;
            if (!readWord(depth) || !readMark(')')) {
                return false;
            }
            atom.become(sums[depth]);
            return true;
        }

        private boolean readCommutator(int depth) {
            int start = at;
            at++;
            if (!readWord(depth) || !readMark(',')) {
                return false;
            }
            Word first = firsts[depth];
            first.become(sums[depth]);
            if (!readWord(depth) || !readMark(']')) {
                return false;
            }
            Word second = sums[depth];
            atom.clear();
            // Beyond 40 letters is no fault here: it is the factor with its power that must be short.
            return atom.joinTurned(first) && atom.joinTurned(second)
                && atom.joinWord(first) && atom.joinWord(second) || stop(LONG_FAULT, start);
        }

        private boolean readMark(int mark) {
            if (peek() != mark) {
                return stop(FORM_FAULT, at);
            }
            at++;
            return true;
        }

        private boolean readPower() {
            at++;
            skipBlanks();
            boolean turned = peek() == '-';
            if (turned) {
                at++;
                skipBlanks();
            }
            int start = at;
            if (!isDigit(peek())) {
                return stop(FORM_FAULT, at);
            }
            int number = 0;
            for (int k = 0; k < TAPE_ROOM && isDigit(peek()); k++) {
                number = 10 * number + peek() - '0';
                if (number > MOST_POWER) {
                    return stop(NUMBER_FAULT, start);
                }
                at++;
            }
            skipBlanks();
            times = number;
            if (turned) {
                atom.turn();
            }
            return true;
        }

        private boolean raiseAtom() {
            raised.clear();
            for (int k = 0; k < times; k++) {
                if (!raised.joinWord(atom)) {
                    return false;
                }
            }
            return true;
        }

        private static boolean isDigit(int character) {
            return character >= '0' && character <= '9';
        }
    }

    /**
     * The rows that are left. Each has a slot, which it keeps while numbers change, and cells hold
     * slots: so numbering anew touches no cell. Row 0 is never melted and stands in slot 0.
     */
    private static final class Table {
        private final int[] cells = new int[MOST_ROWS * MOST_COLUMNS];
        private final int[] numbers = new int[MOST_ROWS];
        private final boolean[] done = new boolean[MOST_ROWS];
        /** The slots of the rows that are left, by numbers. */
        private final int[] order = new int[MOST_ROWS];
        /** The slots that are free: as many as there are no rows for. */
        private final int[] spare = new int[MOST_ROWS];
        /** Towards the row that a slot's row is one with; itself, but for while rows melt. */
        private final int[] parents = new int[MOST_ROWS];
        private final int[] melting = new int[MOST_ROWS];
        private int meltingCount = 0;
        private boolean meltedSincePack = false;
        private int mostAtOnce = 1;
        int strategy = FILL;
        int columns = 0;
        int left = 0;
        int made = 0;
        int most = 0;
        int next = 0;
        int packs = 0;
        int steps = 0;
        int state = GOES_ON;

        Table() {
        }

        void start(int strategyNumber, int rows, int columnCount) {
            strategy = strategyNumber;
            mostAtOnce = Math.min(rows, MOST_ROWS);
            columns = Math.min(columnCount, MOST_COLUMNS);
            left = 0;
            made = 0;
            most = 0;
            next = 0;
            packs = 0;
            steps = 0;
            state = GOES_ON;
            meltedSincePack = false;
            for (int k = 0; k < MOST_ROWS; k++) {
                spare[k] = MOST_ROWS - 1 - k;
                numbers[k] = NONE;
                parents[k] = k;
            }
            addRow();
        }

        void copyFrom(Table model) {
            System.arraycopy(model.cells, 0, cells, 0, cells.length);
            System.arraycopy(model.numbers, 0, numbers, 0, MOST_ROWS);
            System.arraycopy(model.order, 0, order, 0, MOST_ROWS);
            System.arraycopy(model.spare, 0, spare, 0, MOST_ROWS);
            System.arraycopy(model.parents, 0, parents, 0, MOST_ROWS);
            for (int k = 0; k < MOST_ROWS; k++) {
                done[k] = model.done[k];
            }
            strategy = model.strategy;
            mostAtOnce = model.mostAtOnce;
            columns = model.columns;
            left = model.left;
            made = model.made;
            most = model.most;
            next = model.next;
            packs = model.packs;
            steps = model.steps;
            state = model.state;
            meltedSincePack = model.meltedSincePack;
        }

        boolean hasPlace() {
            return left < mostAtOnce && made < MOST_MADE;
        }

        private int addRow() {
            if (left >= MOST_ROWS) {
                return NONE;
            }
            int slot = spare[MOST_ROWS - 1 - left];
            order[left] = slot;
            left++;
            most = Math.max(most, left);
            numbers[slot] = next;
            next++;
            made++;
            done[slot] = false;
            for (int k = slot * MOST_COLUMNS; k < (slot + 1) * MOST_COLUMNS; k++) {
                cells[k] = EMPTY;
            }
            return slot;
        }

        /** NEW at a cell that is empty; the caller has seen that there is a place. */
        void makeRow(int slot, int column) {
            int fresh = addRow();
            if (fresh != NONE) {
                link(slot, column, fresh);
            }
        }

        int get(int slot, int column) {
            int k = slot * MOST_COLUMNS + column;
            return k >= 0 && k < cells.length ? cells[k] : EMPTY;
        }

        void link(int slot, int column, int target) {
            int there = slot * MOST_COLUMNS + column;
            int back = target * MOST_COLUMNS + (column ^ 1);
            if (there >= 0 && there < cells.length && back >= 0 && back < cells.length) {
                cells[there] = target;
                cells[back] = slot;
            }
        }

        private void unlink(int slot, int column, int target) {
            int there = slot * MOST_COLUMNS + column;
            int back = target * MOST_COLUMNS + (column ^ 1);
            if (there >= 0 && there < cells.length && back >= 0 && back < cells.length) {
                cells[there] = EMPTY;
                cells[back] = EMPTY;
            }
        }

        boolean isLeft(int slot) {
            return slot >= 0 && slot < MOST_ROWS && numbers[slot] != NONE;
        }

        int numberOf(int slot) {
            return slot >= 0 && slot < MOST_ROWS ? numbers[slot] : NONE;
        }

        int slotInOrder(int i) {
            return i >= 0 && i < left ? order[i] : NONE;
        }

        int numberInOrder(int i) {
            return numberOf(slotInOrder(i));
        }

        int slotOf(int number) {
            for (int k = 0; k < left; k++) {
                if (numbers[order[k]] == number) {
                    return order[k];
                }
            }
            return NONE;
        }

        /** The slot of the least row that was not DONE; NONE. */
        int firstNotDone() {
            for (int k = 0; k < left; k++) {
                if (!done[order[k]]) {
                    return order[k];
                }
            }
            return NONE;
        }

        void markDone(int slot) {
            if (slot >= 0 && slot < MOST_ROWS) {
                done[slot] = true;
            }
        }

        int countDone() {
            int count = 0;
            for (int k = 0; k < left; k++) {
                count += done[order[k]] ? 1 : 0;
            }
            return count;
        }

        int countEmpty() {
            int count = 0;
            for (int k = 0; k < left; k++) {
                for (int column = 0; column < columns; column++) {
                    count += get(order[k], column) == EMPTY ? 1 : 0;
                }
            }
            return count;
        }

        /** The first empty cell as slot * MOST_COLUMNS + column, rows by numbers; NONE. */
        int firstEmpty() {
            for (int k = 0; k < left; k++) {
                int start = order[k] * MOST_COLUMNS;
                for (int column = 0; column < columns; column++) {
                    if (cells[start + column] == EMPTY) {
                        return start + column;
                    }
                }
            }
            return NONE;
        }

        /** The slot to which a word leads; EMPTY if it comes to an empty cell. */
        int follow(Word word, int slot) {
            int reached = slot;
            for (int k = 0; k < word.length && reached != EMPTY; k++) {
                reached = get(reached, word.columns[k]);
            }
            return reached;
        }

        boolean isFixedBy(Word word) {
            for (int k = 0; k < left; k++) {
                if (follow(word, order[k]) != order[k]) {
                    return false;
                }
            }
            return true;
        }

        /** A QUARREL: the two rows are one, and all that follows from it. */
        void merge(int one, int another) {
            meltingCount = 0;
            unite(one, another);
            for (int k = 0; k < meltingCount && k < MOST_ROWS; k++) {
                int gone = melting[k];
                for (int column = 0; column < columns; column++) {
                    int target = get(gone, column);
                    if (target == EMPTY) {
                        continue;
                    }
                    unlink(gone, column, target);
                    int keeper = rootOf(gone);
                    int end = rootOf(target);
                    int held = get(keeper, column);
                    int holder = get(end, column ^ 1);
                    if (held != EMPTY) {
                        unite(rootOf(held), end);
                    } else if (holder != EMPTY) {
                        unite(rootOf(holder), keeper);
                    } else {
                        link(keeper, column, end);
                    }
                }
            }
            forgetMelted();
        }

        private int rootOf(int slot) {
            int root = slot;
            for (int k = 0; k < MOST_ROWS && parents[root] != root; k++) {
                root = parents[root];
            }
            return root;
        }

        /** Puts one root under the other, which has the less number; it has to melt. */
        private void unite(int one, int another) {
            if (one == another || meltingCount >= MOST_ROWS) {
                return;
            }
            boolean oneStays = numbers[one] < numbers[another];
            int gone = oneStays ? another : one;
            parents[gone] = oneStays ? one : another;
            melting[meltingCount] = gone;
            meltingCount++;
        }

        private void forgetMelted() {
            for (int k = 0; k < meltingCount; k++) {
                int gone = melting[k];
                numbers[gone] = NONE;
                parents[gone] = gone;
            }
            int stay = 0;
            int free = MOST_ROWS - left;
            for (int k = 0; k < left; k++) {
                int slot = order[k];
                if (numbers[slot] != NONE) {
                    order[stay] = slot;
                    stay++;
                } else {
                    spare[free] = slot;
                    free++;
                }
            }
            left = stay;
            meltedSincePack = meltedSincePack || meltingCount > 0;
        }

        /** PACK. */
        void renumber() {
            for (int k = 0; k < left; k++) {
                numbers[order[k]] = k;
            }
            next = left;
            packs++;
            meltedSincePack = false;
        }

        void renumberIfMelted() {
            if (meltedSincePack) {
                renumber();
            }
        }

        void renumberAs(int[] slots, int count) {
            if (count != left || slots.length < count) {
                return;
            }
            for (int k = 0; k < count; k++) {
                order[k] = slots[k];
                numbers[slots[k]] = k;
            }
            next = count;
        }
    }

    /** Takes STEPS in a table by its strategy. */
    private static final class Filler {
        private Table table = null;
        private WordList words = null;
        private WordList subwords = null;
        private boolean changed = false;
        /** Where the latest LOOK came to forward, and the column that is due there. */
        private int end = 0;
        private int due = 0;

        Filler() {
        }

        void advance(Table filled, WordList nothings, WordList generators) {
            if (filled.state != GOES_ON) {
                return;
            }
            table = filled;
            words = nothings;
            subwords = generators;
            table.steps++;
            boolean first = table.steps == 1;
            boolean looks = table.strategy == LOOK || table.strategy == MIXED && table.steps % 2 == 1;
            boolean hadPlace;
            if (first) {
                hadPlace = fillWords(subwords, 0);
            } else if (looks) {
                hadPlace = makeFirstEmpty();
            } else {
                int slot = table.firstNotDone();
                hadPlace = fillWords(words, slot) && fillCells(slot);
            }
            if (hadPlace && !first && (looks || table.strategy == AHEAD)) {
                close();
            }
            table.state = !hadPlace ? SPENT : isComplete() ? CLOSED : GOES_ON;
        }

        /** False, as of the next three, if there is no place for a NEW. */
        private boolean makeFirstEmpty() {
            int first = table.firstEmpty();
            if (first == NONE) {
                return true;
            }
            if (!table.hasPlace()) {
                return false;
            }
            table.makeRow(first / MOST_COLUMNS, first % MOST_COLUMNS);
            return true;
        }

        private boolean fillWords(WordList list, int slot) {
            for (int k = 0; k < list.count && table.isLeft(slot); k++) {
                if (!fillWord(list.entries[k], slot)) {
                    return false;
                }
            }
            return true;
        }

        private boolean fillWord(Word word, int slot) {
            int missing = look(word, slot);
            for (int k = 0; k < MOST_MADE && missing > 1; k++) {
                if (!table.hasPlace() && table.strategy == SMALL) {
                    close();
                    table.renumberIfMelted();
                    missing = table.isLeft(slot) ? look(word, slot) : 0;
                }
                if (missing > 1) {
                    if (!table.hasPlace()) {
                        return false;
                    }
                    table.makeRow(end, due);
                    missing = look(word, slot);
                }
            }
            return true;
        }

        private boolean fillCells(int slot) {
            for (int column = 0; column < table.columns && table.isLeft(slot); column++) {
                boolean empty = table.get(slot, column) == EMPTY;
                if (empty && !table.hasPlace() && table.strategy == SMALL) {
                    close();
                    table.renumberIfMelted();
                    empty = table.isLeft(slot) && table.get(slot, column) == EMPTY;
                }
                if (empty) {
                    if (!table.hasPlace()) {
                        return false;
                    }
                    table.makeRow(slot, column);
                }
            }
            if (table.isLeft(slot)) {
                table.markDone(slot);
            }
            return true;
        }

        /** LOOKs at a word from a row; how many letters are left, if a NEW is due, else 0. */
        private int look(Word word, int slot) {
            int front = slot;
            int from = 0;
            int stop = word.length;
            while (from < stop) {
                int target = table.get(front, word.columns[from]);
                if (target == EMPTY) {
                    break;
                }
                front = target;
                from++;
            }
            int rear = slot;
            while (from < stop) {
                int target = table.get(rear, word.columns[stop - 1] ^ 1);
                if (target == EMPTY) {
                    break;
                }
                rear = target;
                stop--;
            }
            if (from == stop) {
                if (front != rear) {
                    table.merge(front, rear);
                    changed = true;
                }
                return 0;
            }
            if (stop - from == 1) {
                table.link(front, word.columns[from], rear);
                changed = true;
                return 0;
            }
            end = front;
            due = word.columns[from];
            return stop - from;
        }

        /** CLOSE. What it comes to does not depend on the order of rows, so it goes by slots. */
        private void close() {
            changed = true;
            for (int pass = 0; pass < MANY && changed; pass++) {
                changed = false;
                for (int slot = 0; slot < MOST_ROWS; slot++) {
                    for (int k = 0; k < words.count && table.isLeft(slot); k++) {
                        look(words.entries[k], slot);
                    }
                }
                for (int k = 0; k < subwords.count; k++) {
                    look(subwords.entries[k], 0);
                }
            }
        }

        /** CLOSED. */
        private boolean isComplete() {
            if (table.firstEmpty() != NONE) {
                return false;
            }
            for (int k = 0; k < words.count; k++) {
                if (!table.isFixedBy(words.entries[k])) {
                    return false;
                }
            }
            for (int k = 0; k < subwords.count; k++) {
                if (table.follow(subwords.entries[k], 0) != 0) {
                    return false;
                }
            }
            return true;
        }
    }

    /** Goes about in a CLOSED table: by least words from row 0, and round cycles. */
    private static final class Walker {
        /** The slots in the order in which they are met from row 0 on, by rows and columns. */
        final int[] queue = new int[MOST_ROWS];
        int reached = 0;
        private final int[] origins = new int[MOST_ROWS];
        private final int[] vias = new int[MOST_ROWS];
        private final int[] lengths = new int[MOST_ROWS];
        private final boolean[] seen = new boolean[MOST_ROWS];
        private final Word single = new Word(1);

        Walker() {
        }

        private void forgetSeen() {
            for (int k = 0; k < MOST_ROWS; k++) {
                seen[k] = false;
            }
        }

        void spread(Table table) {
            forgetSeen();
            reached = 0;
            meet(0, 0, 0, 0);
            for (int k = 0; k < reached && k < MOST_ROWS; k++) {
                int slot = queue[k];
                for (int column = 0; column < table.columns; column++) {
                    meet(table.get(slot, column), slot, column, lengths[slot] + 1);
                }
            }
        }

        private void meet(int slot, int origin, int via, int length) {
            if (slot < 0 || slot >= MOST_ROWS || seen[slot] || reached >= MOST_ROWS) {
                return;
            }
            seen[slot] = true;
            origins[slot] = origin;
            vias[slot] = via;
            lengths[slot] = length;
            queue[reached] = slot;
            reached++;
        }

        /** Spells the least word of a slot that spread() has met; how many letters it has. */
        int spell(int slot, byte[] bytes) {
            int length = Math.min(lengths[slot], bytes.length);
            int at = slot;
            for (int k = length - 1; k >= 0; k--) {
                bytes[k] = Word.byteOf(vias[at]);
                at = origins[at];
            }
            return length;
        }

        int farthestNumber(Table table) {
            int far = 0;
            for (int k = 0; k < table.left; k++) {
                int slot = table.slotInOrder(k);
                if (slot != NONE && lengths[slot] > lengths[far]) {
                    far = slot;
                }
            }
            return table.numberOf(far);
        }

        /** How many rows a word's cycle has from a slot on; 0 if the slot was seen. */
        private int roundOf(Table table, Word word, int slot) {
            int count = 0;
            int at = slot;
            while (count < MOST_ROWS && at >= 0 && at < MOST_ROWS && !seen[at]) {
                seen[at] = true;
                count++;
                at = table.follow(word, at);
            }
            return count;
        }

        int countCycles(Table table, int column, int length) {
            single.clear();
            single.join(column);
            forgetSeen();
            int count = 0;
            for (int k = 0; k < table.left; k++) {
                int round = roundOf(table, single, table.slotInOrder(k));
                count += round > 0 && round == length ? 1 : 0;
            }
            return count;
        }

        /** The least power above 0 of a word that moves no row, or BEYOND. */
        int orderOf(Table table, Word word) {
            forgetSeen();
            long all = 1;
            for (int k = 0; k < table.left; k++) {
                int round = roundOf(table, word, table.slotInOrder(k));
                long common = commonDivisor(all, round);
                if (round > 0 && common > 0) {
                    all = all / common * round;
                }
                if (all > BEYOND) {
                    return BEYOND;
                }
            }
            return (int) all;
        }

        private static long commonDivisor(long one, long another) {
            long greater = one;
            long rest = another;
            for (int k = 0; k < MANY && rest > 0; k++) {
                long next = greater % rest;
                greater = rest;
                rest = next;
            }
            return greater;
        }
    }

    /** LOW: tries partial tables of a few rows one behind another. */
    private static final class LowSearch {
        private final int[] cells = new int[LOW_CELLS];
        private final int[] kept = new int[LOW_KEPT * LOW_CELLS];
        private final int[] keptRows = new int[LOW_KEPT];
        /** While a table is RENAMED: the new name of a row, and the row of a new name. */
        private final int[] names = new int[LOW_ROWS];
        private final int[] met = new int[LOW_ROWS];
        private WordList words = null;
        private int rows = 0;
        private int mostRows = 0;
        private int columns = 0;
        boolean hasRun = false;
        boolean ended = false;
        int tries = 0;
        int found = 0;

        LowSearch() {
        }

        void search(int most, int columnCount, WordList nothings) {
            words = nothings;
            mostRows = Math.min(most, LOW_ROWS);
            columns = Math.min(columnCount, MOST_COLUMNS);
            rows = 1;
            hasRun = true;
            ended = false;
            tries = 0;
            found = 0;
            for (int k = 0; k < LOW_CELLS; k++) {
                cells[k] = EMPTY;
            }
            goOn(0);
        }

        private int firstEmpty() {
            for (int row = 0; row < rows; row++) {
                int start = row * MOST_COLUMNS;
                for (int column = 0; column < columns; column++) {
                    if (cells[start + column] == EMPTY) {
                        return start + column;
                    }
                }
            }
            return NONE;
        }

        private void goOn(int depth) {
            int place = firstEmpty();
            if (place == NONE || depth > LOW_CELLS) {
                return;
            }
            int known = rows;
            int other = place % MOST_COLUMNS ^ 1;
            for (int target = 0; target <= known && target < mostRows && !ended; target++) {
                int back = target * MOST_COLUMNS + other;
                if (cells[back] != EMPTY) {
                    continue;
                }
                if (tries >= MOST_TRIES) {
                    ended = true;
                } else {
                    tryTarget(place, target, back, depth);
                }
            }
        }

        private void tryTarget(int place, int target, int back, int depth) {
            int known = rows;
            tries++;
            cells[place] = target;
            cells[back] = place / MOST_COLUMNS;
            rows = Math.max(known, target + 1);
            if (allMayComeRound()) {
                if (firstEmpty() != NONE) {
                    goOn(depth + 1);
                } else if (isLeast()) {
                    add();
                }
            }
            cells[place] = EMPTY;
            cells[back] = EMPTY;
            rows = known;
        }

        private boolean allMayComeRound() {
            for (int k = 0; words != null && k < words.count; k++) {
                for (int row = 0; row < rows; row++) {
                    int end = follow(words.entries[k], row);
                    if (end != EMPTY && end != row) {
                        return false;
                    }
                }
            }
            return true;
        }

        private int follow(Word word, int row) {
            int reached = row;
            for (int k = 0; k < word.length && reached >= 0; k++) {
                int place = reached * MOST_COLUMNS + word.columns[k];
                reached = place < LOW_CELLS ? cells[place] : EMPTY;
            }
            return reached;
        }

        private boolean isLeast() {
            for (int row = 1; row < rows; row++) {
                if (compareFrom(cells, 0, rows, row) < 0) {
                    return false;
                }
            }
            return true;
        }

        private void add() {
            if (found < LOW_KEPT) {
                System.arraycopy(cells, 0, kept, found * LOW_CELLS, LOW_CELLS);
                keptRows[found] = rows;
            }
            found++;
        }

        /** Below 0, 0, above 0: a table RENAMED from a row is less, the same, more than as it is. */
        private int compareFrom(int[] all, int start, int count, int first) {
            for (int row = 0; row < count; row++) {
                names[row] = NONE;
            }
            names[first] = 0;
            met[0] = first;
            int named = 1;
            for (int row = 0; row < named && row < count; row++) {
                for (int column = 0; column < columns; column++) {
                    int target = all[start + met[row] * MOST_COLUMNS + column];
                    if (target < 0 || target >= count) {
                        return 0;
                    }
                    if (names[target] == NONE && named < count) {
                        names[target] = named;
                        met[named] = target;
                        named++;
                    }
                    int difference = names[target] - all[start + row * MOST_COLUMNS + column];
                    if (difference != 0) {
                        return difference;
                    }
                }
            }
            return 0;
        }

        int rowsOfKept(int i) {
            return i >= 0 && i < Math.min(found, LOW_KEPT) ? keptRows[i] : NONE;
        }

        int cellOfKept(int i, int row, int column) {
            if (row < 0 || row >= rowsOfKept(i) || column < 0 || column >= columns) {
                return NONE;
            }
            return kept[i * LOW_CELLS + row * MOST_COLUMNS + column];
        }

        boolean isKeptNormal(int i) {
            int count = rowsOfKept(i);
            for (int row = 1; row < count; row++) {
                if (compareFrom(kept, i * LOW_CELLS, count, row) != 0) {
                    return false;
                }
            }
            return true;
        }
    }

    /** THE SHEET: a table that is told cell by cell. */
    private static final class Sheet {
        private final int[] cells = new int[SHEET_ROWS * MOST_COLUMNS];
        private final boolean[] seen = new boolean[SHEET_ROWS];
        private final int[] queue = new int[SHEET_ROWS];
        int rows = 0;

        Sheet() {
        }

        void start(int count) {
            rows = Math.min(count, SHEET_ROWS);
            for (int k = 0; k < cells.length; k++) {
                cells[k] = EMPTY;
            }
        }

        boolean write(int row, int column, int value) {
            if (row < 0 || row >= rows || column < 0 || column >= MOST_COLUMNS) {
                return false;
            }
            cells[row * MOST_COLUMNS + column] = value;
            return true;
        }

        int firstWrong(int columns, WordList words, WordList subwords) {
            int wrong = firstStray(columns);
            if (wrong == RIGHT) {
                wrong = firstOneWay(columns);
            }
            if (wrong == RIGHT) {
                wrong = firstNotRound(words, subwords);
            }
            if (wrong == RIGHT) {
                wrong = firstUnreached(columns);
            }
            return wrong;
        }

        private int firstStray(int columns) {
            for (int row = 0; row < rows; row++) {
                for (int column = 0; column < columns; column++) {
                    int target = cells[row * MOST_COLUMNS + column];
                    if (target < 0 || target >= rows) {
                        return 1000 * row + 10 * column + 1;
                    }
                }
            }
            return RIGHT;
        }

        /** As all that follow, only asked when each cell holds a row. */
        private int firstOneWay(int columns) {
            for (int row = 0; row < rows; row++) {
                for (int column = 0; column < columns; column++) {
                    if (next(next(row, column), column ^ 1) != row) {
                        return 1000 * row + 10 * column + 2;
                    }
                }
            }
            return RIGHT;
        }

        private int firstNotRound(WordList words, WordList subwords) {
            for (int row = 0; row < rows; row++) {
                for (int k = 0; k < words.count; k++) {
                    if (follow(words.entries[k], row) != row) {
                        return 1000 * row + 3;
                    }
                }
            }
            for (int k = 0; k < subwords.count; k++) {
                if (follow(subwords.entries[k], 0) != 0) {
                    return 4;
                }
            }
            return RIGHT;
        }

        private int firstUnreached(int columns) {
            for (int row = 0; row < rows; row++) {
                seen[row] = row == 0;
            }
            queue[0] = 0;
            int reached = 1;
            for (int k = 0; k < reached && k < rows; k++) {
                for (int column = 0; column < columns; column++) {
                    int target = next(queue[k], column);
                    if (target >= 0 && target < rows && !seen[target]) {
                        seen[target] = true;
                        queue[reached] = target;
                        reached++;
                    }
                }
            }
            for (int row = 0; row < rows; row++) {
                if (!seen[row]) {
                    return 1000 * row + 5;
                }
            }
            return RIGHT;
        }

        private int next(int row, int column) {
            return row >= 0 && row < rows ? cells[row * MOST_COLUMNS + column] : EMPTY;
        }

        private int follow(Word word, int row) {
            int reached = row;
            for (int k = 0; k < word.length; k++) {
                reached = next(reached, word.columns[k]);
            }
            return reached;
        }
    }
}
