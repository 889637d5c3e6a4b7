/** Street lamps and their lighters. */
public final class LampLighters {
    private static final int NONE = -1;
    private static final int FAILED = -2;

    private static final int MAX_BYTES = 1600;
    private static final int MAX_TOKENS = 400;
    private static final int MAX_LETTERS = 8;
    private static final int MAX_DIGITS = 3;
    private static final int MAX_LAMPS = 10;
    private static final int MAX_ROUNDS = 6;
    private static final int MAX_ACTS = 80;
    private static final int MAX_NESTED = 6;
    private static final int LAST_POST = 29;
    private static final int MAX_ROOM = 30;
    private static final int MAX_VALUE = 99;
    private static final int MAX_LIGHTERS = 3;
    private static final int MAX_CAN = 60;
    private static final int FULL_WICK = 10;
    private static final int MAX_NOTES = 20;
    private static final int MAX_AT_ONCE = 30;
    private static final int QUARTERS = 40;
    private static final int MAX_NIGHTS = 5;
    private static final int MAX_AHEAD = 80;
    private static final int MOON_NIGHTS = 30;
    private static final int BRIGHT_MOON = 11;

    // A compare has three tokens and a word (if, and) ahead of them.
    private static final int MAX_COMPARES = MAX_TOKENS / 4;
    // A round walks only rounds ahead of it, so each round's blocks are open once at most.
    private static final int MAX_OPEN = MAX_ROUNDS * MAX_NESTED;

    // The kinds of tokens; those of words stand in the order of WORDS.
    private static final String WORDS =
        "lamp at holds round light douse trim fill wait note go walk do if and else oil wick lit can moon hour post";
    private static final int LAMP = 0;
    private static final int AT = 1;
    private static final int HOLDS = 2;
    private static final int ROUND = 3;
    private static final int LIGHT = 4;
    private static final int DOUSE = 5;
    private static final int TRIM = 6;
    private static final int FILL = 7;
    private static final int WAIT = 8;
    private static final int NOTE = 9;
    private static final int GO = 10;
    private static final int WALK = 11;
    private static final int DO = 12;
    private static final int IF = 13;
    private static final int AND = 14;
    private static final int ELSE = 15;
    private static final int OIL = 16;
    private static final int WICK = 17;
    private static final int LIT = 18;
    private static final int CAN = 19;
    private static final int MOON = 20;
    private static final int HOUR = 21;
    private static final int POST = 22;
    private static final int NAME = 23;
    private static final int NUMBER = 24;
    private static final String SIGNS = "();<>=";
    private static final int OPEN = 25;
    private static final int CLOSE = 26;
    private static final int SEMICOLON = 27;
    private static final int LESS = 28;
    private static final int MORE = 29;
    private static final int SAME = 30;
    private static final int END = 31;
    private static final int WRONG = 32;

    private final Tape tape;
    private final Reader reader;
    private final Town town;
    private final Town trial;
    private Book spare;
    private int errorPosition;

    public LampLighters() {
        tape = new Tape();
        spare = new Book();
        reader = new Reader(spare);
        Book empty = new Book();
        town = new Town(empty);
        trial = new Town(empty);
        errorPosition = NONE;
    }

    // ---- the book

    public int feed(int a, int b, int c, int d, int e) throws IllegalStateException {
        if (tape.length > MAX_BYTES - 20) {
            throw new IllegalStateException("the tape is full");
        }
        tape.append(a);
        tape.append(b);
        tape.append(c);
        tape.append(d);
        tape.append(e);
        return tape.length;
    }

    public int trim(int bytes) throws IllegalArgumentException {
        if (bytes < 0 || bytes > tape.length) {
            throw new IllegalArgumentException("the tape has no such length");
        }
        tape.length = bytes;
        return bytes;
    }

    public int teach() {
        int error = reader.read(tape, spare);
        tape.length = 0;
        errorPosition = reader.errorPosition;
        if (error == 0) {
            Book taught = spare;
            spare = town.book;
            town.begin(taught);
        }
        return error;
    }

    public int errorAt() {
        return errorPosition;
    }

    // ---- the town

    public int hire(int can) throws IllegalArgumentException, IllegalStateException {
        if (can < 1 || can > MAX_CAN) {
            throw new IllegalArgumentException("no can holds so much");
        }
        int number = town.lighterCount;
        if (number >= MAX_LIGHTERS || number >= town.lighters.length) {
            throw new IllegalStateException("all lighters are hired");
        }
        town.lighters[number].begin(can);
        town.lighterCount = number + 1;
        return number;
    }

    public int assign(int lighter, int round) throws IndexOutOfBoundsException {
        Lighter assigned = lighterNumbered(lighter);
        if (round < 0 || round >= town.book.roundCount) {
            throw new IndexOutOfBoundsException("no such round");
        }
        int before = assigned.round;
        assigned.beginRound(town.book, round);
        return before;
    }

    public boolean setClouds(boolean are) {
        boolean were = town.cloudy;
        town.cloudy = are;
        return were;
    }

    // ---- by hand

    public boolean lightLamp(int lamp) throws IndexOutOfBoundsException {
        Lamp lit = lampNumbered(lamp);
        lit.light();
        return lit.lit;
    }

    public boolean douseLamp(int lamp) throws IndexOutOfBoundsException {
        Lamp doused = lampNumbered(lamp);
        boolean before = doused.lit;
        doused.lit = false;
        return before;
    }

    public int fillLamp(int lamp, int oil) throws IndexOutOfBoundsException, IllegalArgumentException {
        Lamp filled = lampNumbered(lamp);
        if (oil < 1 || oil > MAX_ROOM) {
            throw new IllegalArgumentException("oil is 1 to 30");
        }
        filled.oil = Math.min(filled.oil + oil, filled.room);
        return filled.oil;
    }

    public int trimLamp(int lamp) throws IndexOutOfBoundsException {
        Lamp trimmed = lampNumbered(lamp);
        int before = trimmed.wick;
        trimmed.wick = FULL_WICK;
        return before;
    }

    // ---- quarters and nights

    public int passQuarters(int quarters) throws IllegalArgumentException {
        if (quarters < 1 || quarters > QUARTERS) {
            throw new IllegalArgumentException("quarters are 1 to 40");
        }
        return town.pass(quarters);
    }

    public int passNights(int nights) throws IllegalArgumentException {
        if (nights < 1 || nights > MAX_NIGHTS) {
            throw new IllegalArgumentException("nights are 1 to 5");
        }
        return town.pass(nights * QUARTERS);
    }

    // ---- what the book has

    public int lamps() {
        return town.book.lampCount;
    }

    public int rounds() {
        return town.book.roundCount;
    }

    public int acts() {
        return town.book.actCount;
    }

    // ---- lamps

    public int postOf(int lamp) throws IndexOutOfBoundsException {
        return lampNumbered(lamp).post;
    }

    public int roomOf(int lamp) throws IndexOutOfBoundsException {
        return lampNumbered(lamp).room;
    }

    public int oilOf(int lamp) throws IndexOutOfBoundsException {
        return lampNumbered(lamp).oil;
    }

    public int wickOf(int lamp) throws IndexOutOfBoundsException {
        return lampNumbered(lamp).wick;
    }

    public boolean isLit(int lamp) throws IndexOutOfBoundsException {
        return lampNumbered(lamp).lit;
    }

    public int darkOf(int lamp) throws IndexOutOfBoundsException {
        return lampNumbered(lamp).dark;
    }

    public int litLamps() {
        int lit = 0;
        for (int i = 0; i < town.book.lampCount && i < town.lamps.length; i++) {
            if (town.lamps[i].lit) {
                lit++;
            }
        }
        return lit;
    }

    public int oilBurnt() {
        return town.burnt;
    }

    // ---- nights

    public int night() {
        return town.night;
    }

    public int quarter() {
        return town.quarter;
    }

    public int moonlight() {
        return moonOf(town.night);
    }

    public boolean isOff() {
        return town.rests();
    }

    // ---- lighters

    public int lighters() {
        return town.lighterCount;
    }

    public int placeOf(int lighter) throws IndexOutOfBoundsException {
        return lighterNumbered(lighter).place;
    }

    public int canOf(int lighter) throws IndexOutOfBoundsException {
        return lighterNumbered(lighter).can;
    }

    public boolean hasRound(int lighter) throws IndexOutOfBoundsException {
        return lighterNumbered(lighter).round != NONE;
    }

    public int roundOf(int lighter) throws IndexOutOfBoundsException, IllegalStateException {
        int round = lighterNumbered(lighter).round;
        if (round == NONE) {
            throw new IllegalStateException("this one has no round");
        }
        return round;
    }

    public boolean isDone(int lighter) throws IndexOutOfBoundsException {
        return lighterNumbered(lighter).hasEnded();
    }

    public int busyOf(int lighter) throws IndexOutOfBoundsException {
        return lighterNumbered(lighter).left;
    }

    public int notesOf(int lighter) throws IndexOutOfBoundsException {
        return lighterNumbered(lighter).noteCount;
    }

    public int noteOf(int lighter, int back) throws IndexOutOfBoundsException {
        Lighter noting = lighterNumbered(lighter);
        if (back < 0 || back >= MAX_NOTES || back >= noting.noteCount) {
            throw new IndexOutOfBoundsException("no such note");
        }
        return noting.noteBack(back);
    }

    // ---- what would be

    public int quartersUntilLit(int lamp) throws IndexOutOfBoundsException {
        if (lampNumbered(lamp).lit) {
            return 0;
        }
        trial.copy(town);
        for (int passed = 1; passed <= MAX_AHEAD; passed++) {
            trial.pass(1);
            if (lamp >= 0 && lamp < trial.lamps.length && trial.lamps[lamp].lit) {
                return passed;
            }
        }
        return NONE;
    }

    public int darkAfter(int quarters) throws IllegalArgumentException {
        if (quarters < 1 || quarters > MAX_AHEAD) {
            throw new IllegalArgumentException("quarters are 1 to 80");
        }
        trial.copy(town);
        return trial.pass(quarters);
    }

    public int nightsUntilOff() {
        int nights = 0;
        while (nights < MOON_NIGHTS && moonOf(town.night + nights) < BRIGHT_MOON) {
            nights++;
        }
        return nights;
    }

    public int bestRound(int lighter, int quarters)
            throws IndexOutOfBoundsException, IllegalArgumentException, IllegalStateException {
        lighterNumbered(lighter);
        if (quarters < 1 || quarters > QUARTERS) {
            throw new IllegalArgumentException("quarters are 1 to 40");
        }
        if (town.book.roundCount == 0) {
            throw new IllegalStateException("there are no rounds");
        }
        int best = 0;
        int fewest = 0;
        for (int round = 0; round < town.book.roundCount; round++) {
            trial.copy(town);
            if (lighter >= 0 && lighter < trial.lighters.length) {
                trial.lighters[lighter].beginRound(trial.book, round);
            }
            int dark = trial.pass(quarters);
            if (round == 0 || dark < fewest) {
                best = round;
                fewest = dark;
            }
        }
        return best;
    }

    public double meanOil() {
        int count = town.book.lampCount;
        if (count <= 0) {
            return 0;
        }
        int sum = 0;
        for (int i = 0; i < count && i < town.lamps.length; i++) {
            sum += town.lamps[i].oil;
        }
        return (double) sum / count;
    }

    public long digest() {
        long d = 1901;
        d = d * 31 + town.book.lampCount;
        d = d * 31 + town.book.roundCount;
        d = d * 31 + town.book.actCount;
        d = d * 31 + litLamps();
        d = d * 31 + town.burnt;
        d = d * 31 + town.night;
        d = d * 31 + town.quarter;
        d = d * 31 + moonOf(town.night);
        d = d * 31 + (town.rests() ? 1 : 0);
        d = d * 31 + town.lighterCount;
        for (int i = 0; i < town.book.lampCount && i < town.lamps.length; i++) {
            d = town.lamps[i].addTo(d);
        }
        for (int i = 0; i < town.lighterCount && i < town.lighters.length; i++) {
            d = town.lighters[i].addTo(d);
        }
        return d;
    }

    private Lamp lampNumbered(int lamp) {
        if (lamp < 0 || lamp >= town.book.lampCount || lamp >= town.lamps.length) {
            throw new IndexOutOfBoundsException("no such lamp");
        }
        return town.lamps[lamp];
    }

    private Lighter lighterNumbered(int lighter) {
        if (lighter < 0 || lighter >= town.lighterCount || lighter >= town.lighters.length) {
            throw new IndexOutOfBoundsException("no such lighter");
        }
        return town.lighters[lighter];
    }

    private static int moonOf(int night) {
        int r = night % MOON_NIGHTS;
        return r < 15 ? r : 29 - r;
    }

    // Rows are looked at and filled by these, so that no index is used that the row doesn't have.
    private static int get(int[] row, int index) {
        return index >= 0 && index < row.length ? row[index] : NONE;
    }

    private static void put(int[] row, int index, int value) {
        if (index >= 0 && index < row.length) {
            row[index] = value;
        }
    }

    private static void put(long[] row, int index, long value) {
        if (index >= 0 && index < row.length) {
            row[index] = value;
        }
    }

    /** The bytes that a book is read from. */
    private static final class Tape {
        private final byte[] bytes = new byte[MAX_BYTES];
        int length;

        void append(int number) {
            for (int shift = 24; shift >= 0; shift -= 8) {
                if (length >= 0 && length < bytes.length) {
                    bytes[length] = (byte) (number >> shift);
                    length++;
                }
            }
        }

        /** The byte there, 0 to 255; NONE behind the end. */
        int byteAt(int at) {
            return at >= 0 && at < length && at < bytes.length ? bytes[at] & 255 : NONE;
        }
    }

    /** The tokens of a tape, up to its end or the first byte that can't be read: END or WRONG is the last one. */
    private static final class Tokens {
        private static final int BASE = 27;

        final int[] kinds = new int[MAX_TOKENS + 1];
        final int[] starts = new int[MAX_TOKENS + 1];
        /** What a number is, or the letters of a word as digits. */
        final long[] values = new long[MAX_TOKENS + 1];
        private final long[] reserved = new long[NAME];

        Tokens() {
            int word = 0;
            for (int i = 0; i < WORDS.length(); i++) {
                char letter = WORDS.charAt(i);
                if (letter == ' ') {
                    word++;
                } else if (word < reserved.length) {
                    reserved[word] = withLetter(reserved[word], letter);
                }
            }
        }

        void scan(Tape tape) {
            int at = 0;
            boolean more = true;
            for (int n = 0; more && n <= MAX_TOKENS && n < kinds.length; n++) {
                at = scanToken(tape, behindBlanks(tape, at), n);
                if (n == MAX_TOKENS && kinds[n] != END) {
                    kinds[n] = WRONG;
                }
                more = kinds[n] != END && kinds[n] != WRONG;
            }
        }

        private static int behindBlanks(Tape tape, int start) {
            int at = start;
            while (at < MAX_BYTES && (tape.byteAt(at) == ' ' || tape.byteAt(at) == '\n')) {
                at++;
            }
            return at;
        }

        /** Reads the token that begins at start as that with the number n; returns the position behind it. */
        private int scanToken(Tape tape, int start, int n) {
            int first = tape.byteAt(start);
            if (isLetter(first)) {
                return scanWord(tape, start, n);
            }
            if (isDigit(first)) {
                return scanNumber(tape, start, n);
            }
            if (first == NONE) {
                keep(n, END, start, 0);
                return start;
            }
            int sign = SIGNS.indexOf((char) first);
            keep(n, sign < 0 ? WRONG : OPEN + sign, start, 0);
            return start + 1;
        }

        private int scanWord(Tape tape, int start, int n) {
            int at = start;
            long letters = 0;
            while (at < MAX_BYTES && isLetter(tape.byteAt(at))) {
                letters = withLetter(letters, tape.byteAt(at));
                at++;
            }
            keep(n, at - start > MAX_LETTERS ? WRONG : kindOfWord(letters), start, letters);
            return at;
        }

        private int scanNumber(Tape tape, int start, int n) {
            int at = start;
            long number = 0;
            while (at < MAX_BYTES && isDigit(tape.byteAt(at))) {
                number = number * 10 + tape.byteAt(at) - '0';
                at++;
            }
            keep(n, at - start > MAX_DIGITS ? WRONG : NUMBER, start, number);
            return at;
        }

        private void keep(int n, int kind, int start, long value) {
            put(kinds, n, kind);
            put(starts, n, start);
            put(values, n, value);
        }

        private int kindOfWord(long letters) {
            for (int word = 0; word < reserved.length; word++) {
                if (reserved[word] == letters) {
                    return word;
                }
            }
            return NAME;
        }

        private static long withLetter(long letters, int letter) {
            return letters * BASE + letter - 'a' + 1;
        }

        private static boolean isLetter(int b) {
            return b >= 'a' && b <= 'z';
        }

        private static boolean isDigit(int b) {
            return b >= '0' && b <= '9';
        }
    }

    /** What a tape says. Acts are numbered as they are read; a block is known by its first act, NONE if it has none. */
    private static final class Book {
        int lampCount;
        int roundCount;
        int actCount;
        int compareCount;
        final int[] posts = new int[MAX_LAMPS];
        final int[] rooms = new int[MAX_LAMPS];
        /** The block of each round. */
        final int[] blocks = new int[MAX_ROUNDS];

        /** The kind of the first word of each act. */
        final int[] words = new int[MAX_ACTS];
        /** A number as it is, a measure as its kind below zero; the lamp of a go, the round of a walk. */
        final int[] values = new int[MAX_ACTS];
        /** The act behind each in its block, or NONE. */
        final int[] behind = new int[MAX_ACTS];
        /** The block of a do, the first one of an if. */
        final int[] bodies = new int[MAX_ACTS];
        final int[] elses = new int[MAX_ACTS];
        /** The compares of an if: the number of the first one, and that behind the last one. */
        final int[] firstCompares = new int[MAX_ACTS];
        final int[] endCompares = new int[MAX_ACTS];

        final int[] lefts = new int[MAX_COMPARES];
        final int[] signs = new int[MAX_COMPARES];
        final int[] rights = new int[MAX_COMPARES];

        void clear() {
            lampCount = 0;
            roundCount = 0;
            actCount = 0;
            compareCount = 0;
        }
    }

    /**
     * Reads tokens as a book. A method of the grammar answers false (or FAILED) at an error 1, and stands at its token
     * then; the first of the other errors is kept till it is clear that there is no error 1.
     */
    private static final class Reader {
        private final Tokens tokens = new Tokens();
        private final long[] lampNames = new long[MAX_LAMPS];
        private final long[] roundNames = new long[MAX_ROUNDS];
        private Book book;
        private int at;
        private int kind;
        private int start;
        private long value;
        private int error;
        int errorPosition;

        Reader(Book first) {
            book = first;
        }

        /** Reads a tape into a book, which is of no use if there is an error; returns 0, or the error. */
        int read(Tape tape, Book into) {
            tokens.scan(tape);
            book = into;
            book.clear();
            error = 0;
            errorPosition = NONE;
            at = NONE;
            step();
            boolean isBook = true;
            for (int n = 0; n < MAX_TOKENS && isBook && kind == LAMP; n++) {
                isBook = readLamp();
            }
            for (int n = 0; n < MAX_TOKENS && isBook && kind == ROUND; n++) {
                isBook = readRound();
            }
            if (!isBook || kind != END) {
                error = 1;
                errorPosition = start;
            }
            return error;
        }

        private boolean readLamp() {
            step();
            if (kind != NAME) {
                return false;
            }
            int lamp = book.lampCount;
            checkName(lamp >= MAX_LAMPS);
            put(lampNames, lamp, value);
            step();
            if (!accept(AT) || !readNumber(book.posts, lamp, 0, LAST_POST)) {
                return false;
            }
            if (!accept(HOLDS) || !readNumber(book.rooms, lamp, 1, MAX_ROOM)) {
                return false;
            }
            if (lamp < MAX_LAMPS) {
                book.lampCount = lamp + 1;
            }
            return accept(SEMICOLON);
        }

        private boolean readRound() {
            step();
            if (kind != NAME) {
                return false;
            }
            int round = book.roundCount;
            checkName(round >= MAX_ROUNDS);
            put(roundNames, round, value);
            step();
            int block = readBlock(0);
            if (block == FAILED) {
                return false;
            }
            put(book.blocks, round, block);
            // Only now, as a round can't be walked before its block has ended.
            if (round < MAX_ROUNDS) {
                book.roundCount = round + 1;
            }
            return true;
        }

        /** Reads a block that lies in so many others; returns its first act, NONE without any, or FAILED. */
        private int readBlock(int around) {
            if (kind != OPEN || around >= MAX_NESTED) {
                return FAILED;
            }
            step();
            int first = NONE;
            int last = NONE;
            for (int n = 0; n < MAX_TOKENS && kind >= LIGHT && kind <= IF; n++) {
                int act = addAct();
                if (!readAct(act, around)) {
                    return FAILED;
                }
                if (last == NONE) {
                    first = act;
                } else {
                    put(book.behind, last, act);
                }
                last = act;
            }
            return accept(CLOSE) ? first : FAILED;
        }

        private int addAct() {
            int act = book.actCount;
            if (act >= MAX_ACTS) {
                mistake(4);
                return NONE;
            }
            put(book.words, act, kind);
            put(book.behind, act, NONE);
            put(book.elses, act, NONE);
            book.actCount = act + 1;
            return act;
        }

        private boolean readAct(int act, int around) {
            int word = kind;
            step();
            switch (word) {
                case FILL:
                case WAIT:
                case NOTE:
                    return readValue(book.values, act) && accept(SEMICOLON);
                case GO:
                    return readTarget(act, lampNames, book.lampCount) && accept(SEMICOLON);
                case WALK:
                    return readTarget(act, roundNames, book.roundCount) && accept(SEMICOLON);
                case DO:
                    return readValue(book.values, act) && readInner(book.bodies, act, around);
                case IF:
                    return readCompares(act) && readInner(book.bodies, act, around)
                        && (!accept(ELSE) || readInner(book.elses, act, around));
                default:
                    return accept(SEMICOLON);
            }
        }

        private boolean readInner(int[] row, int act, int around) {
            int block = readBlock(around + 1);
            put(row, act, block);
            return block != FAILED;
        }

        private boolean readCompares(int act) {
            put(book.firstCompares, act, book.compareCount);
            boolean more = true;
            for (int n = 0; n < MAX_TOKENS && more; n++) {
                int compare = book.compareCount;
                if (!readValue(book.lefts, compare) || kind < LESS || kind > SAME) {
                    return false;
                }
                put(book.signs, compare, kind);
                step();
                if (!readValue(book.rights, compare)) {
                    return false;
                }
                book.compareCount = compare + 1;
                more = accept(AND);
            }
            put(book.endCompares, act, book.compareCount);
            return true;
        }

        private boolean readTarget(int act, long[] names, int count) {
            if (kind != NAME) {
                return false;
            }
            int target = indexOf(names, count);
            if (target == NONE) {
                mistake(3);
            }
            put(book.values, act, target);
            step();
            return true;
        }

        private boolean readValue(int[] row, int index) {
            if (kind == NUMBER) {
                if (value > MAX_VALUE) {
                    mistake(5);
                }
                put(row, index, (int) value);
            } else if (kind >= OIL && kind <= POST) {
                put(row, index, -kind);
            } else {
                return false;
            }
            step();
            return true;
        }

        private boolean readNumber(int[] row, int index, int least, int most) {
            if (kind != NUMBER) {
                return false;
            }
            if (value < least || value > most) {
                mistake(5);
            }
            put(row, index, (int) value);
            step();
            return true;
        }

        private void checkName(boolean isTooMany) {
            if (indexOf(lampNames, book.lampCount) != NONE || indexOf(roundNames, book.roundCount) != NONE) {
                mistake(2);
            } else if (isTooMany) {
                mistake(4);
            }
        }

        /** Which of the first names is the word at which the reader stands, or NONE. */
        private int indexOf(long[] names, int count) {
            for (int i = 0; i < count && i < names.length; i++) {
                if (names[i] == value) {
                    return i;
                }
            }
            return NONE;
        }

        private void mistake(int number) {
            if (error == 0) {
                error = number;
                errorPosition = start;
            }
        }

        private boolean accept(int wanted) {
            if (kind != wanted) {
                return false;
            }
            step();
            return true;
        }

        /** Goes to the next token; END and WRONG, which no rule of the grammar takes, are the last ones. */
        private void step() {
            at++;
            if (at >= 0 && at < tokens.kinds.length && at < tokens.starts.length && at < tokens.values.length) {
                kind = tokens.kinds[at];
                start = tokens.starts[at];
                value = tokens.values[at];
            }
        }
    }

    /** A lamp of the street. */
    private static final class Lamp {
        int post;
        int room;
        int oil;
        int wick;
        int clock;
        int dark;
        boolean lit;

        void begin(int itsPost, int itsRoom) {
            post = itsPost;
            room = itsRoom;
            oil = itsRoom;
            wick = FULL_WICK;
            clock = 0;
            dark = 0;
            lit = false;
        }

        void copy(Lamp other) {
            post = other.post;
            room = other.room;
            oil = other.oil;
            wick = other.wick;
            clock = other.clock;
            dark = other.dark;
            lit = other.lit;
        }

        void light() {
            lit = oil > 0 && wick > 0;
        }

        /** Burns for a quarter; returns how much oil that took. */
        int burn() {
            int burnt = 0;
            clock++;
            if (clock % 2 == 0) {
                burnt = 1;
                oil--;
            }
            if (clock % 4 == 0) {
                wick--;
            }
            if (oil <= 0 || wick <= 0) {
                lit = false;
            }
            return burnt;
        }

        long addTo(long digest) {
            long d = digest * 31 + post;
            d = d * 31 + room;
            d = d * 31 + oil;
            d = d * 31 + wick;
            d = d * 31 + (lit ? 1 : 0);
            return d * 31 + dark;
        }
    }

    /** A lighter, with the blocks that this one has entered, the innermost last. */
    private static final class Lighter {
        int canSize;
        int can;
        int place;
        int round = NONE;
        /** The act that is begun, or NONE; and how many quarters it still takes. */
        int begun = NONE;
        int left;
        int noteCount;
        private final int[] notes = new int[MAX_NOTES];
        private int open;
        /** Of each open block: its first act, the next one to be looked at or NONE, how often all are done again. */
        private final int[] firsts = new int[MAX_OPEN];
        private final int[] nexts = new int[MAX_OPEN];
        private final int[] repeats = new int[MAX_OPEN];

        void begin(int size) {
            canSize = size;
            round = NONE;
            noteCount = 0;
            goHome();
        }

        void goHome() {
            can = canSize;
            place = 0;
            giveUp();
        }

        void beginRound(Book book, int number) {
            round = number;
            giveUp();
            enter(get(book.blocks, number), 1);
        }

        void giveUp() {
            begun = NONE;
            left = 0;
            open = 0;
        }

        boolean hasEnded() {
            return begun == NONE && open == 0;
        }

        void enter(int first, int times) {
            if (first == NONE || times < 1 || open >= MAX_OPEN) {
                return;
            }
            put(firsts, open, first);
            put(nexts, open, first);
            put(repeats, open, times - 1);
            open++;
        }

        /** The next act that is to be looked at, NONE if there is none any more; ends blocks on the way. */
        int nextAct(Book book) {
            while (open > 0) {
                int top = open - 1;
                int act = get(nexts, top);
                if (act == NONE && get(repeats, top) > 0) {
                    put(repeats, top, get(repeats, top) - 1);
                    act = get(firsts, top);
                }
                if (act != NONE) {
                    put(nexts, top, get(book.behind, act));
                    return act;
                }
                open = top;
            }
            return NONE;
        }

        void note(int value) {
            put(notes, noteCount % MAX_NOTES, value);
            noteCount++;
        }

        int noteBack(int back) {
            return get(notes, (noteCount - 1 - back) % MAX_NOTES);
        }

        /** Copies all but what was noted, at which no act looks. */
        void copy(Lighter other) {
            canSize = other.canSize;
            can = other.can;
            place = other.place;
            round = other.round;
            begun = other.begun;
            left = other.left;
            noteCount = other.noteCount;
            open = other.open;
            for (int i = 0; i < open && i < MAX_OPEN; i++) {
                put(firsts, i, get(other.firsts, i));
                put(nexts, i, get(other.nexts, i));
                put(repeats, i, get(other.repeats, i));
            }
        }

        long addTo(long digest) {
            long d = digest * 31 + place;
            d = d * 31 + can;
            d = d * 31 + round;
            d = d * 31 + (hasEnded() ? 1 : 0);
            d = d * 31 + left;
            d = d * 31 + noteCount;
            for (int back = 0; back < MAX_NOTES && back < noteCount; back++) {
                d = d * 31 + noteBack(back);
            }
            return d;
        }
    }

    /** A street with its lamps and lighters in a night. */
    private static final class Town {
        Book book;
        final Lamp[] lamps = new Lamp[MAX_LAMPS];
        final Lighter[] lighters = new Lighter[MAX_LIGHTERS];
        int lighterCount;
        int night;
        int quarter;
        int burnt;
        boolean cloudy;

        Town(Book first) {
            book = first;
            for (int i = 0; i < lamps.length; i++) {
                lamps[i] = new Lamp();
            }
            for (int i = 0; i < lighters.length; i++) {
                lighters[i] = new Lighter();
            }
        }

        void begin(Book taught) {
            book = taught;
            night = 0;
            quarter = 0;
            burnt = 0;
            cloudy = false;
            for (int i = 0; i < book.lampCount && i < lamps.length; i++) {
                lamps[i].begin(get(book.posts, i), get(book.rooms, i));
            }
            for (int i = 0; i < lighterCount && i < lighters.length; i++) {
                lighters[i].begin(lighters[i].canSize);
            }
        }

        void copy(Town other) {
            book = other.book;
            lighterCount = other.lighterCount;
            night = other.night;
            quarter = other.quarter;
            burnt = other.burnt;
            cloudy = other.cloudy;
            for (int i = 0; i < book.lampCount && i < lamps.length && i < other.lamps.length; i++) {
                lamps[i].copy(other.lamps[i]);
            }
            for (int i = 0; i < lighterCount && i < lighters.length && i < other.lighters.length; i++) {
                lighters[i].copy(other.lighters[i]);
            }
        }

        boolean rests() {
            return !cloudy && moonOf(night) >= BRIGHT_MOON;
        }

        /** Lets quarters go by; returns for how many of them lamps are dark, all lamps added. */
        int pass(int quarters) {
            int dark = 0;
            for (int n = 0; n < quarters; n++) {
                if (!rests()) {
                    for (int i = 0; i < lighterCount && i < lighters.length; i++) {
                        work(lighters[i]);
                    }
                    dark += countDark();
                }
                burnAll();
                quarter++;
                if (quarter == QUARTERS) {
                    dawn();
                }
            }
            return dark;
        }

        private int countDark() {
            int dark = 0;
            for (int i = 0; i < book.lampCount && i < lamps.length; i++) {
                if (!lamps[i].lit) {
                    lamps[i].dark++;
                    dark++;
                }
            }
            return dark;
        }

        private void burnAll() {
            for (int i = 0; i < book.lampCount && i < lamps.length; i++) {
                if (lamps[i].lit) {
                    burnt += lamps[i].burn();
                }
            }
        }

        private void dawn() {
            quarter = 0;
            night++;
            for (int i = 0; i < book.lampCount && i < lamps.length; i++) {
                lamps[i].lit = false;
            }
            for (int i = 0; i < lighterCount && i < lighters.length; i++) {
                Lighter lighter = lighters[i];
                lighter.goHome();
                if (lighter.round != NONE) {
                    lighter.beginRound(book, lighter.round);
                }
            }
        }

        private void work(Lighter lighter) {
            if (lighter.begun == NONE) {
                choose(lighter);
            }
            if (lighter.begun == NONE) {
                return;
            }
            lighter.left--;
            if (lighter.left <= 0) {
                finish(lighter);
            }
        }

        private void choose(Lighter lighter) {
            for (int atOnce = 0; atOnce < MAX_AT_ONCE; atOnce++) {
                int act = lighter.nextAct(book);
                if (act == NONE) {
                    return;
                }
                int takes = quartersFor(lighter, act);
                if (takes > 0) {
                    lighter.begun = act;
                    lighter.left = takes;
                    return;
                }
                doAtOnce(lighter, act);
            }
            lighter.giveUp();
        }

        private int quartersFor(Lighter lighter, int act) {
            switch (get(book.words, act)) {
                case LIGHT:
                case DOUSE:
                case FILL:
                    return 1;
                case TRIM:
                    return 2;
                case WAIT:
                    return valueFor(lighter, get(book.values, act));
                case GO:
                    return Math.abs(lighter.place - get(book.posts, get(book.values, act)));
                default:
                    return 0;
            }
        }

        private void doAtOnce(Lighter lighter, int act) {
            int value = get(book.values, act);
            switch (get(book.words, act)) {
                case NOTE:
                    lighter.note(valueFor(lighter, value));
                    break;
                case WALK:
                    lighter.enter(get(book.blocks, value), 1);
                    break;
                case DO:
                    lighter.enter(get(book.bodies, act), valueFor(lighter, value));
                    break;
                case IF:
                    lighter.enter(get(isSo(lighter, act) ? book.bodies : book.elses, act), 1);
                    break;
                default:
                    break;
            }
        }

        private boolean isSo(Lighter lighter, int act) {
            int end = get(book.endCompares, act);
            for (int compare = get(book.firstCompares, act); compare < end; compare++) {
                int left = valueFor(lighter, get(book.lefts, compare));
                int right = valueFor(lighter, get(book.rights, compare));
                int sign = get(book.signs, compare);
                if (sign == LESS && left >= right || sign == MORE && left <= right || sign == SAME && left != right) {
                    return false;
                }
            }
            return true;
        }

        private void finish(Lighter lighter) {
            int act = lighter.begun;
            lighter.begun = NONE;
            int value = get(book.values, act);
            int word = get(book.words, act);
            if (word == GO) {
                lighter.place = get(book.posts, value);
                return;
            }
            Lamp lamp = lampAt(lighter.place);
            if (lamp == null) {
                return;
            }
            switch (word) {
                case LIGHT:
                    lamp.light();
                    break;
                case DOUSE:
                    lamp.lit = false;
                    break;
                case TRIM:
                    lamp.wick = FULL_WICK;
                    break;
                case FILL:
                    fill(lighter, lamp, valueFor(lighter, value));
                    break;
                default:
                    break;
            }
        }

        private static void fill(Lighter lighter, Lamp lamp, int wanted) {
            int oil = Math.max(0, Math.min(wanted, Math.min(lighter.can, lamp.room - lamp.oil)));
            lighter.can -= oil;
            lamp.oil += oil;
        }

        private int valueFor(Lighter lighter, int value) {
            if (value >= 0) {
                return value;
            }
            Lamp lamp = lampAt(lighter.place);
            switch (-value) {
                case OIL:
                    return lamp == null ? -1 : lamp.oil;
                case WICK:
                    return lamp == null ? -1 : lamp.wick;
                case LIT:
                    return lamp == null ? -1 : lamp.lit ? 1 : 0;
                case CAN:
                    return lighter.can;
                case MOON:
                    return moonOf(night);
                case HOUR:
                    return quarter;
                default:
                    return lighter.place;
            }
        }

        /** The lamp at a post, of several the one with the smallest number; null if there is none. */
        private Lamp lampAt(int post) {
            for (int i = 0; i < book.lampCount && i < lamps.length; i++) {
                if (lamps[i].post == post) {
                    return lamps[i];
                }
            }
            return null;
        }
    }
}
