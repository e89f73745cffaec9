/**
 * A chord sheet: a song text with chords in brackets that is read, transposed, respelled for its
 * key, laid out in pairs of rows and examined for the easiest capo position.
 */
public final class ChordSheet {
    private static final int FIRST_CODE = 32;
    private static final int LAST_CODE = 126;
    private static final int MAX_TEXT = 200;
    private static final int MAX_CHORDS = 40;
    private static final int MAX_STATES = 8;
    private static final int MIN_WIDTH = 10;
    private static final int MAX_WIDTH = 200;
    private static final int MAX_SIGNATURE = 6;
    private static final int MAX_SEMITONES = 11;
    private static final int MAX_FRET = 7;
    private static final int SEMITONES = 12;
    private static final int NO_NOTE = 100;
    private static final int MINOR_MARK = 100;
    private static final int NOTHING_WRONG = -1;
    private static final int CHORD_ROW = 0;
    private static final int LYRIC_ROW = 1;

    private final Row text = new Row();
    private final Row name = new Row();
    private final Sheet sheet = new Sheet();
    // A text is read into the draft first, because a wrong one must leave the sheet as it is.
    private final Sheet draft = new Sheet();
    private final History history = new History();
    private final Reader reader = new Reader(text);
    private final Layout layout = new Layout(sheet);
    private boolean simple = true;
    private boolean flats = false;
    private int width = MAX_WIDTH;

    public ChordSheet() {
    }

    // ---- text, settings

    public int type(int c) throws IllegalArgumentException, IllegalStateException {
        if (c < FIRST_CODE || c > LAST_CODE) {
            throw new IllegalArgumentException("the code is not from 32 to 126");
        }
        if (text.size() >= MAX_TEXT) {
            throw new IllegalStateException("the text is full");
        }
        text.add((char) c);
        return text.size();
    }

    public int clearText() {
        int before = text.size();
        text.cutTo(0);
        return before;
    }

    public int read() {
        int wrong = reader.readSheet(draft);
        if (wrong != NOTHING_WRONG) {
            return -1 - wrong;
        }
        history.keep(sheet);
        sheet.copyFrom(draft);
        takeKey(Keys.best(sheet));
        text.cutTo(0);
        return sheet.chordCount();
    }

    public boolean setSimple(boolean on) {
        boolean before = simple;
        simple = on;
        return before;
    }

    public boolean setFlats(boolean on) {
        boolean before = flats;
        flats = on;
        return before;
    }

    public int setWidth(int width) throws IllegalArgumentException {
        if (width < MIN_WIDTH || width > MAX_WIDTH) {
            throw new IllegalArgumentException("the width is not from 10 to 200");
        }
        int before = this.width;
        this.width = width;
        return before;
    }

    // ---- lyrics

    public int lines() {
        return sheet.lineCount();
    }

    public int lyrics(int line) throws IndexOutOfBoundsException {
        requireLine(line);
        return sheet.lengthOf(line);
    }

    public int lyric(int line, int k) throws IndexOutOfBoundsException {
        requireLine(line);
        if (k < 0 || k >= sheet.lengthOf(line)) {
            throw new IndexOutOfBoundsException("there is no such column");
        }
        return sheet.letterAt(line, k);
    }

    // ---- chords

    public int chords() {
        return sheet.chordCount();
    }

    public int lineOf(int i) throws IndexOutOfBoundsException {
        requireChord(i);
        return sheet.get(i, Sheet.LINE);
    }

    public int columnOf(int i) throws IndexOutOfBoundsException {
        requireChord(i);
        return sheet.get(i, Sheet.COLUMN);
    }

    public int rootOf(int i) throws IndexOutOfBoundsException {
        requireChord(i);
        return sheet.get(i, Sheet.ROOT);
    }

    public int qualityOf(int i) throws IndexOutOfBoundsException {
        requireChord(i);
        return sheet.get(i, Sheet.QUALITY);
    }

    public int bassOf(int i) throws IndexOutOfBoundsException {
        requireChord(i);
        return sheet.get(i, Sheet.BASS);
    }

    public int nameChar(int i, int k) throws IndexOutOfBoundsException {
        requireChord(i);
        requireIndex(k);
        name.cutTo(0);
        sheet.writeName(i, name);
        return name.at(k);
    }

    public int setChord(int i) throws IndexOutOfBoundsException {
        requireChord(i);
        int wrong = reader.readSingleChord();
        if (wrong != NOTHING_WRONG) {
            return -1 - wrong;
        }
        history.keep(sheet);
        sheet.put(i, reader.root(), reader.quality(), reader.bass());
        text.cutTo(0);
        return 0;
    }

    public int addChord(int line, int column)
            throws IndexOutOfBoundsException, IllegalStateException {
        requireLine(line);
        requireChordColumn(line, column);
        if (sheet.chordCount() >= MAX_CHORDS) {
            throw new IllegalStateException("there are 40 chords already");
        }
        int wrong = reader.readSingleChord();
        if (wrong != NOTHING_WRONG) {
            return -1 - wrong;
        }
        history.keep(sheet);
        text.cutTo(0);
        return sheet.insert(line, column, reader.root(), reader.quality(), reader.bass());
    }

    public int removeChord(int i) throws IndexOutOfBoundsException {
        requireChord(i);
        history.keep(sheet);
        sheet.takeOut(i);
        return sheet.chordCount();
    }

    public int moveChord(int i, int column) throws IndexOutOfBoundsException {
        requireChord(i);
        int line = sheet.get(i, Sheet.LINE);
        requireChordColumn(line, column);
        history.keep(sheet);
        int root = sheet.get(i, Sheet.ROOT);
        int quality = sheet.get(i, Sheet.QUALITY);
        int bass = sheet.get(i, Sheet.BASS);
        sheet.takeOut(i);
        return sheet.insert(line, column, root, quality, bass);
    }

    public int commonTones(int i) throws IndexOutOfBoundsException {
        if (i < 0 || i >= sheet.chordCount() - 1) {
            throw new IndexOutOfBoundsException("there is no such chord with a next one");
        }
        return Integer.bitCount(sheet.tonesOf(i) & sheet.tonesOf(i + 1));
    }

    public int degree(int i) throws IndexOutOfBoundsException {
        requireChord(i);
        int root = Notes.pitchClass(sheet.get(i, Sheet.ROOT));
        return Keys.degreeOf(root, sheet.signature, sheet.minor);
    }

    // ---- key

    public int tonic() {
        return Keys.tonicOf(sheet.signature, sheet.minor);
    }

    public boolean isMinor() {
        return sheet.minor;
    }

    public int signature() {
        return sheet.signature;
    }

    public int setKey(int place, boolean minor) throws IllegalArgumentException {
        requireTonic(place, minor);
        history.keep(sheet);
        int before = sheet.signature;
        sheet.signature = Keys.signatureOf(place, minor);
        sheet.minor = minor;
        return before;
    }

    public int score(int place, boolean minor) throws IllegalArgumentException {
        requireTonic(place, minor);
        return Keys.scoreOf(sheet, Keys.signatureOf(place, minor), minor);
    }

    public int findKey() {
        return Keys.best(sheet);
    }

    public int transpose(int semitones) throws IllegalArgumentException {
        if (semitones < -MAX_SEMITONES || semitones > MAX_SEMITONES) {
            throw new IllegalArgumentException("the semitones are not from -11 to 11");
        }
        history.keep(sheet);
        int newTonic = Notes.raised(tonic(), semitones);
        sheet.signature = Keys.simplestSignature(newTonic, sheet.minor, flats);
        sheet.spell(semitones, simple);
        return sheet.signature;
    }

    public int respell() {
        history.keep(sheet);
        return sheet.spell(0, simple);
    }

    // ---- capo

    public int difficulty(int fret) throws IllegalArgumentException {
        if (fret < 0 || fret > MAX_FRET) {
            throw new IllegalArgumentException("the fret is not from 0 to 7");
        }
        return Capo.difficultyAt(sheet, fret);
    }

    public int bestCapo() {
        return Capo.easiestFret(sheet);
    }

    // ---- layout

    public int pairs(int line) throws IndexOutOfBoundsException {
        requireLine(line);
        return layout.countPairs(line, width);
    }

    public int rowLength(int line, int pair, int row) throws IndexOutOfBoundsException {
        Row found = layout.find(line, pair, row, width);
        if (found == null) {
            throw new IndexOutOfBoundsException("there is no such line, pair or row");
        }
        return found.size();
    }

    public int rowChar(int line, int pair, int row, int k) throws IndexOutOfBoundsException {
        Row found = layout.find(line, pair, row, width);
        if (found == null) {
            throw new IndexOutOfBoundsException("there is no such line, pair or row");
        }
        requireIndex(k);
        return found.at(k);
    }

    // ---- undo

    public int undo() throws IllegalStateException {
        if (history.isEmpty()) {
            throw new IllegalStateException("there is nothing to undo");
        }
        return history.restore(sheet);
    }

    public long fingerprint() {
        long sum = sheet.addTo(47L);
        sum = 31L * sum + tonic();
        return 31L * sum + (sheet.minor ? 1 : 0);
    }

    // ---- helpers of the face

    private void takeKey(int found) {
        boolean minor = found > MAX_SIGNATURE;
        int place = minor ? found - MINOR_MARK : found;
        sheet.signature = Keys.signatureOf(place, minor);
        sheet.minor = minor;
    }

    private void requireLine(int line) {
        if (!sheet.hasLine(line)) {
            throw new IndexOutOfBoundsException("there is no such line");
        }
    }

    private void requireChordColumn(int line, int column) {
        if (column < 0 || column > sheet.lengthOf(line)) {
            throw new IndexOutOfBoundsException("there is no such column");
        }
    }

    private void requireChord(int i) {
        if (i < 0 || i >= sheet.chordCount()) {
            throw new IndexOutOfBoundsException("there is no such chord");
        }
    }

    private void requireIndex(int k) {
        if (k < 0) {
            throw new IndexOutOfBoundsException("the index is negative");
        }
    }

    private void requireTonic(int place, boolean minor) {
        int raise = minor ? Keys.MINOR_RAISE : 0;
        if (place < raise - MAX_SIGNATURE || place > raise + MAX_SIGNATURE) {
            throw new IllegalArgumentException("no key has this tonic");
        }
    }

    /** The qualities of chords in the order of their numbers; sets of pitch classes are bit sets. */
    private enum Quality {
        MAJOR("", 1 | 1 << 4 | 1 << 7,
                Notes.C | Notes.D | Notes.E | Notes.G | Notes.A, false),
        MINOR("m", 1 | 1 << 3 | 1 << 7, Notes.A | Notes.D | Notes.E, true),
        SEVENTH("7", 1 | 1 << 4 | 1 << 7 | 1 << 10,
                Notes.A | Notes.B | Notes.C | Notes.D | Notes.E | Notes.G, false),
        MINOR_SEVENTH("m7", 1 | 1 << 3 | 1 << 7 | 1 << 10, Notes.A | Notes.D | Notes.E, true),
        MAJOR_SEVENTH("maj7", 1 | 1 << 4 | 1 << 7 | 1 << 11, 0, false),
        DIMINISHED("dim", 1 | 1 << 3 | 1 << 6, 0, true),
        AUGMENTED("aug", 1 | 1 << 4 | 1 << 8, 0, false),
        SUSPENDED("sus4", 1 | 1 << 5 | 1 << 7, 0, false),
        SIXTH("6", 1 | 1 << 4 | 1 << 7 | 1 << 9, 0, false),
        NINTH("9", 1 | 1 << 2 | 1 << 4 | 1 << 7 | 1 << 10, 0, false);

        private static final Quality[] ALL = values();

        private final String suffix;
        private final int tones;
        private final int easyRoots;
        private final boolean minor;

        Quality(String suffix, int tones, int easyRoots, boolean minor) {
            this.suffix = suffix;
            this.tones = tones;
            this.easyRoots = easyRoots;
            this.minor = minor;
        }

        static int count() {
            return ALL.length;
        }

        static Quality at(int number) {
            return number >= 0 && number < ALL.length ? ALL[number] : MAJOR;
        }

        boolean isEasyOn(int root) {
            return (easyRoots >> root & 1) == 1;
        }

        int tonesOn(int root) {
            return Notes.raisedSet(tones, root);
        }
    }

    /** Notes as places on the line of fifths. */
    private static final class Notes {
        static final int C = 1;
        static final int D = 1 << 2;
        static final int E = 1 << 4;
        static final int G = 1 << 7;
        static final int A = 1 << 9;
        static final int B = 1 << 11;

        private static final String LETTERS = "FCGDAEB";
        private static final int FIRST_NATURAL = -1;
        private static final int SHARP = 7;

        private Notes() {
        }

        static int pitchClass(int place) {
            return Math.floorMod(7 * place, SEMITONES);
        }

        static int raised(int place, int semitones) {
            return Math.floorMod(7 * place + semitones, SEMITONES);
        }

        static int raisedSet(int pitchClasses, int semitones) {
            int shifted = pitchClasses << semitones;
            return (shifted | shifted >> SEMITONES) & (1 << SEMITONES) - 1;
        }

        /** The place with this pitch class among the twelve that begin at the lowest one. */
        static int placeFrom(int lowest, int pitchClass) {
            return lowest + Math.floorMod(7 * pitchClass - lowest, SEMITONES);
        }

        static int natural(int letter) {
            if (letter < 'A' || letter > 'G') {
                return NO_NOTE;
            }
            return FIRST_NATURAL + LETTERS.indexOf((char) letter);
        }

        static int spelled(int pitchClass, int signature, boolean simple) {
            int place = placeFrom(signature - 3, pitchClass);
            boolean simpler = simple && hasTwoAccidentals(place);
            return simpler ? placeFrom(FIRST_NATURAL, pitchClass) : place;
        }

        static void write(int place, Row row) {
            row.add(LETTERS.charAt(Math.floorMod(place - FIRST_NATURAL, SHARP)));
            // Flats count below zero.
            int accidentals = Math.floorDiv(place - FIRST_NATURAL, SHARP);
            for (int k = 0; k < Math.abs(accidentals); k++) {
                row.add(accidentals > 0 ? '#' : 'b');
            }
        }

        private static boolean hasTwoAccidentals(int place) {
            return place < FIRST_NATURAL - SHARP || place >= FIRST_NATURAL + 2 * SHARP;
        }
    }

    /** A row of characters that grows up to the longest row that a sheet can have. */
    private static final class Row {
        // Each chord adds its name, of at most 11 characters, and one more of the lyric row.
        private static final int CAPACITY = MAX_TEXT + MAX_CHORDS * 12;

        private final char[] signs = new char[CAPACITY];
        private int size;

        int size() {
            return size;
        }

        int at(int k) {
            return k >= 0 && k < size && k < signs.length ? signs[k] : -1;
        }

        void add(char sign) {
            if (size >= 0 && size < signs.length) {
                signs[size] = sign;
                size++;
            }
        }

        void addAll(String word) {
            for (int k = 0; k < word.length(); k++) {
                add(word.charAt(k));
            }
        }

        void fillTo(int length, char sign) {
            for (int k = size; k < length; k++) {
                add(sign);
            }
        }

        void cutTo(int length) {
            if (length >= 0 && length < size) {
                size = length;
            }
        }
    }

    /** Reads the text; it stops at the first character that is wrong. */
    private static final class Reader {
        private final Row text;
        private int stop;
        private int root;
        private int quality;
        private int bass;
        private boolean whole;

        Reader(Row text) {
            this.text = text;
        }

        int root() {
            return root;
        }

        int quality() {
            return quality;
        }

        int bass() {
            return bass;
        }

        /** Answers the index of what is wrong, or NOTHING_WRONG. */
        int readSheet(Sheet target) {
            target.clear();
            for (int i = 0; i < text.size(); i++) {
                int sign = text.at(i);
                if (sign == ']' || sign == '[' && target.chordCount() >= MAX_CHORDS) {
                    return i;
                }
                if (sign == '[') {
                    readChord(i + 1);
                    if (!whole || text.at(stop) != ']') {
                        return stop;
                    }
                    target.append(root, quality, bass);
                    i = Math.max(i, stop);
                } else if (sign == '/') {
                    target.beginLine();
                } else {
                    target.addLetter((char) sign);
                }
            }
            return NOTHING_WRONG;
        }

        /** Answers the index of what is wrong, or NOTHING_WRONG. */
        int readSingleChord() {
            readChord(0);
            return whole && stop == text.size() ? NOTHING_WRONG : stop;
        }

        private void readChord(int from) {
            stop = from;
            bass = NO_NOTE;
            root = readNote();
            whole = root != NO_NOTE && readQuality();
            if (whole && text.at(stop) == '/') {
                stop++;
                bass = readNote();
                whole = bass != NO_NOTE;
            }
        }

        private int readNote() {
            int place = Notes.natural(text.at(stop));
            if (place == NO_NOTE) {
                return NO_NOTE;
            }
            stop++;
            int sign = text.at(stop);
            if (sign != '#' && sign != 'b') {
                return place;
            }
            stop++;
            return sign == '#' ? place + Notes.SHARP : place - Notes.SHARP;
        }

        /** Goes on as far as any quality does, so that the stop is the first wrong character. */
        private boolean readQuality() {
            int longest = -1;
            boolean found = false;
            for (int number = 0; number < Quality.count(); number++) {
                String suffix = Quality.at(number).suffix;
                int shared = sharedLength(suffix);
                if (shared > longest) {
                    longest = shared;
                    found = false;
                }
                if (shared == longest && shared == suffix.length()) {
                    quality = number;
                    found = true;
                }
            }
            stop += longest;
            return found;
        }

        private int sharedLength(String suffix) {
            int shared = 0;
            while (shared < suffix.length() && text.at(stop + shared) == suffix.charAt(shared)) {
                shared++;
            }
            return shared;
        }
    }

    /** The lines of lyrics, the chords in the order of their lines and columns, and the key. */
    private static final class Sheet {
        static final int LINE = 0;
        static final int COLUMN = 1;
        static final int ROOT = 2;
        static final int QUALITY = 3;
        static final int BASS = 4;
        private static final int FIELDS = 5;

        private final char[] letters = new char[MAX_TEXT];
        // Where each line begins in the letters, and at the end where the last line ends.
        private final int[] starts = new int[MAX_TEXT + 2];
        private int lineCount = 1;
        private final int[] chordFields = new int[MAX_CHORDS * FIELDS];
        private int chordCount;
        private int signature;
        private boolean minor;

        void copyFrom(Sheet other) {
            System.arraycopy(other.letters, 0, letters, 0, MAX_TEXT);
            System.arraycopy(other.starts, 0, starts, 0, MAX_TEXT + 2);
            System.arraycopy(other.chordFields, 0, chordFields, 0, MAX_CHORDS * FIELDS);
            lineCount = other.lineCount;
            chordCount = other.chordCount;
            signature = other.signature;
            minor = other.minor;
        }

        void clear() {
            starts[0] = 0;
            starts[1] = 0;
            lineCount = 1;
            chordCount = 0;
        }

        int lineCount() {
            return lineCount;
        }

        int chordCount() {
            return chordCount;
        }

        boolean hasLine(int line) {
            return line >= 0 && line < lineCount;
        }

        int lengthOf(int line) {
            return startOf(line + 1) - startOf(line);
        }

        /** The code of a character of the lyrics, or -1 where there is none. */
        int letterAt(int line, int column) {
            int at = startOf(line) + column;
            boolean there = column >= 0 && at < startOf(line + 1);
            return there && at >= 0 && at < letters.length ? letters[at] : -1;
        }

        void addLetter(char letter) {
            int end = startOf(lineCount);
            if (end >= 0 && end < letters.length && lineCount >= 0 && lineCount < starts.length) {
                letters[end] = letter;
                starts[lineCount] = end + 1;
            }
        }

        void beginLine() {
            int next = lineCount + 1;
            if (next >= 0 && next < starts.length) {
                starts[next] = startOf(lineCount);
                lineCount = next;
            }
        }

        int get(int i, int field) {
            int at = i * FIELDS + field;
            return at >= 0 && at < chordFields.length ? chordFields[at] : 0;
        }

        void put(int i, int root, int quality, int bass) {
            set(i, ROOT, root);
            set(i, QUALITY, quality);
            set(i, BASS, bass);
        }

        void append(int root, int quality, int bass) {
            int line = lineCount - 1;
            insert(line, lengthOf(line), root, quality, bass);
        }

        /** Puts a chord behind all of its line that are not to the right; answers its number. */
        int insert(int line, int column, int root, int quality, int bass) {
            int i = countUpTo(line, column);
            if (chordCount < MAX_CHORDS && i <= chordCount) {
                int moved = (chordCount - i) * FIELDS;
                System.arraycopy(chordFields, i * FIELDS, chordFields, (i + 1) * FIELDS, moved);
                chordCount++;
                set(i, LINE, line);
                set(i, COLUMN, column);
                put(i, root, quality, bass);
            }
            return i;
        }

        void takeOut(int i) {
            if (i >= 0 && i < chordCount && chordCount <= MAX_CHORDS) {
                int moved = (chordCount - 1 - i) * FIELDS;
                System.arraycopy(chordFields, (i + 1) * FIELDS, chordFields, i * FIELDS, moved);
                chordCount--;
            }
        }

        /** Counts the chords of earlier lines, and those of the line up to the column. */
        int countUpTo(int line, int column) {
            int count = 0;
            while (count < chordCount && isUpTo(count, line, column)) {
                count++;
            }
            return count;
        }

        boolean isAt(int i, int line, int column) {
            return get(i, LINE) == line && get(i, COLUMN) == column;
        }

        int tonesOf(int i) {
            int root = Notes.pitchClass(get(i, ROOT));
            int tones = Quality.at(get(i, QUALITY)).tonesOn(root);
            int bass = get(i, BASS);
            return bass == NO_NOTE ? tones : tones | 1 << Notes.pitchClass(bass);
        }

        void writeName(int i, Row row) {
            Notes.write(get(i, ROOT), row);
            row.addAll(Quality.at(get(i, QUALITY)).suffix);
            int bass = get(i, BASS);
            if (bass != NO_NOTE) {
                row.add('/');
                Notes.write(bass, row);
            }
        }

        /** Raises all notes and spells them for the key; answers how many have changed. */
        int spell(int semitones, boolean simple) {
            int changed = 0;
            for (int i = 0; i < chordCount; i++) {
                changed += spellField(i, ROOT, semitones, simple);
                changed += spellField(i, BASS, semitones, simple);
            }
            return changed;
        }

        long addTo(long fingerprint) {
            long sum = 31L * fingerprint + lineCount;
            for (int line = 0; line < lineCount; line++) {
                int length = lengthOf(line);
                sum = 31L * sum + length;
                for (int k = 0; k < length; k++) {
                    sum = 31L * sum + letterAt(line, k);
                }
            }
            for (int i = 0; i < chordCount; i++) {
                for (int field = 0; field < FIELDS; field++) {
                    sum = 31L * sum + get(i, field);
                }
            }
            return sum;
        }

        private int spellField(int i, int field, int semitones, boolean simple) {
            int place = get(i, field);
            if (place == NO_NOTE) {
                return 0;
            }
            int pitchClass = Notes.raised(place, semitones);
            int spelled = Notes.spelled(pitchClass, signature, simple);
            set(i, field, spelled);
            return spelled == place ? 0 : 1;
        }

        private int startOf(int line) {
            return line >= 0 && line < starts.length ? starts[line] : 0;
        }

        private void set(int i, int field, int value) {
            int at = i * FIELDS + field;
            if (at >= 0 && at < chordFields.length) {
                chordFields[at] = value;
            }
        }

        private boolean isUpTo(int i, int line, int column) {
            int lineOfChord = get(i, LINE);
            return lineOfChord < line || lineOfChord == line && get(i, COLUMN) <= column;
        }
    }

    /** The latest states; they stand in a ring, so that the oldest one makes room for a new one. */
    private static final class History {
        private final Sheet[] states = new Sheet[MAX_STATES];
        private int oldest;
        private int count;

        History() {
            for (int i = 0; i < states.length; i++) {
                states[i] = new Sheet();
            }
        }

        boolean isEmpty() {
            return count == 0;
        }

        void keep(Sheet sheet) {
            Sheet free = stateAt(count);
            if (free != null) {
                free.copyFrom(sheet);
            }
            if (count < MAX_STATES) {
                count++;
            } else {
                oldest = Math.floorMod(oldest + 1, MAX_STATES);
            }
        }

        /** Answers how many states are left. */
        int restore(Sheet sheet) {
            Sheet latest = stateAt(count - 1);
            if (count > 0 && latest != null) {
                sheet.copyFrom(latest);
                count--;
            }
            return count;
        }

        private Sheet stateAt(int age) {
            int at = Math.floorMod(oldest + age, MAX_STATES);
            return at < states.length ? states[at] : null;
        }
    }

    /** What follows from a key, which is told by its signature and its mode. */
    private static final class Keys {
        static final int MINOR_RAISE = 3;
        private static final int SCALE_NOTES = 7;

        private Keys() {
        }

        static int signatureOf(int tonic, boolean minor) {
            return minor ? tonic - MINOR_RAISE : tonic;
        }

        static int tonicOf(int signature, boolean minor) {
            return minor ? signature + MINOR_RAISE : signature;
        }

        static int simplestSignature(int tonicPitch, boolean minor, boolean flats) {
            int lowestTonic = tonicOf(1 - MAX_SIGNATURE, minor);
            int signature = signatureOf(Notes.placeFrom(lowestTonic, tonicPitch), minor);
            return flats && signature == MAX_SIGNATURE ? -MAX_SIGNATURE : signature;
        }

        /** The number of scale notes from the tonic up to the pitch class, if it is one of them. */
        static int degreeOf(int pitchClass, int signature, boolean minor) {
            if (!isInScale(pitchClass, signature)) {
                return 0;
            }
            int tonic = tonicOf(signature, minor);
            int distance = Math.floorMod(pitchClass - Notes.pitchClass(tonic), SEMITONES);
            int degree = 0;
            for (int step = 0; step <= distance; step++) {
                if (isInScale(Notes.raised(tonic, step), signature)) {
                    degree++;
                }
            }
            return degree;
        }

        static int scoreOf(Sheet sheet, int signature, boolean minor) {
            int tonic = Notes.pitchClass(tonicOf(signature, minor));
            int last = sheet.chordCount() - 1;
            int sum = 0;
            for (int i = 0; i <= last; i++) {
                int root = Notes.pitchClass(sheet.get(i, Sheet.ROOT));
                if (isInScale(root, signature)) {
                    sum += 2;
                }
                if (root == tonic) {
                    boolean sameKind = Quality.at(sheet.get(i, Sheet.QUALITY)).minor == minor;
                    sum += 1 + (sameKind ? 1 : 0) + (i == last ? 2 : 0);
                }
            }
            return sum;
        }

        /** The place of the tonic of the key that fits best, plus MINOR_MARK if it is minor. */
        static int best(Sheet sheet) {
            int major = bestSignature(sheet, false);
            int minor = bestSignature(sheet, true);
            if (scoreOf(sheet, minor, true) > scoreOf(sheet, major, false)) {
                return MINOR_MARK + tonicOf(minor, true);
            }
            return tonicOf(major, false);
        }

        /** Tries the signatures in the order in which the document prefers them. */
        private static int bestSignature(Sheet sheet, boolean minor) {
            int best = 0;
            int bestScore = scoreOf(sheet, 0, minor);
            for (int size = 1; size <= MAX_SIGNATURE; size++) {
                int sharpScore = scoreOf(sheet, size, minor);
                if (sharpScore > bestScore) {
                    best = size;
                    bestScore = sharpScore;
                }
                int flatScore = scoreOf(sheet, -size, minor);
                if (flatScore > bestScore) {
                    best = -size;
                    bestScore = flatScore;
                }
            }
            return best;
        }

        private static boolean isInScale(int pitchClass, int signature) {
            int lowest = signature - 1;
            return Notes.placeFrom(lowest, pitchClass) < lowest + SCALE_NOTES;
        }
    }

    /** How hard the chords are to play behind a capo. */
    private static final class Capo {
        private static final int LAST_PLAIN_QUALITY = 3;

        private Capo() {
        }

        static int difficultyAt(Sheet sheet, int fret) {
            int sum = fret;
            int hardRootBefore = NO_NOTE;
            for (int i = 0; i < sheet.chordCount(); i++) {
                int root = Notes.raised(sheet.get(i, Sheet.ROOT), -fret);
                boolean easy = Quality.at(sheet.get(i, Sheet.QUALITY)).isEasyOn(root);
                sum += shapeDifficulty(sheet, i, easy);
                if (!easy && hardRootBefore != NO_NOTE && hardRootBefore != root) {
                    sum++;
                }
                hardRootBefore = easy ? NO_NOTE : root;
            }
            return sum;
        }

        static int easiestFret(Sheet sheet) {
            int easiest = 0;
            int least = difficultyAt(sheet, 0);
            for (int fret = 1; fret <= MAX_FRET; fret++) {
                int difficulty = difficultyAt(sheet, fret);
                if (difficulty < least) {
                    easiest = fret;
                    least = difficulty;
                }
            }
            return easiest;
        }

        private static int shapeDifficulty(Sheet sheet, int i, boolean easy) {
            int sum = easy ? 1 : 4;
            if (sheet.get(i, Sheet.QUALITY) > LAST_PLAIN_QUALITY) {
                sum++;
            }
            int bass = sheet.get(i, Sheet.BASS);
            int root = sheet.get(i, Sheet.ROOT);
            if (bass != NO_NOTE && Notes.pitchClass(bass) != Notes.pitchClass(root)) {
                sum++;
            }
            return sum;
        }
    }

    /** Lays a line out, one pair of rows after the other. */
    private static final class Layout {
        private static final int NO_BREAK = -1;

        private final Sheet sheet;
        private final Row chordRow = new Row();
        private final Row lyricRow = new Row();
        private int line;
        private int width;
        private int begin;
        private int chord;
        // The latest break at which the pair may end, and how much stood there.
        private int end;
        private int endChord;
        private int endChordSize;
        private int endLyricSize;

        Layout(Sheet sheet) {
            this.sheet = sheet;
        }

        int countPairs(int line, int width) {
            start(line, width);
            int count = 0;
            while (count <= MAX_TEXT && layNext()) {
                count++;
            }
            return count;
        }

        /** Answers null if there is no such line, pair or row. */
        Row find(int line, int pair, int row, int width) {
            boolean found = sheet.hasLine(line) && (row == CHORD_ROW || row == LYRIC_ROW)
                    && pair >= 0 && pair <= MAX_TEXT;
            start(line, width);
            for (int p = 0; found && p <= pair; p++) {
                found = layNext();
            }
            if (!found) {
                return null;
            }
            return row == CHORD_ROW ? chordRow : lyricRow;
        }

        private void start(int line, int width) {
            this.line = line;
            this.width = width;
            end = NO_BREAK;
            endChord = sheet.countUpTo(line, -1);
        }

        /**
         * Lays the next pair out, if there is one. The rows only grow from break to break, so the
         * first break at which they are too long ends the search; they are cut back to the last
         * one that fits.
         */
        private boolean layNext() {
            int length = sheet.lengthOf(line);
            if (end >= length) {
                return false;
            }
            begin = Math.max(end, 0);
            end = NO_BREAK;
            chord = endChord;
            chordRow.cutTo(0);
            lyricRow.cutTo(0);
            boolean fits = true;
            for (int k = begin; fits && k < length; k++) {
                fits = !isInnerBreak(k) || offerEnd(k);
                if (fits) {
                    placeChords(k);
                    lyricRow.add((char) sheet.letterAt(line, k));
                }
            }
            if (fits) {
                placeChords(length);
                offerEnd(length);
            }
            cutBack();
            return true;
        }

        private boolean isInnerBreak(int k) {
            return k > begin && isLetter(k) && sheet.letterAt(line, k - 1) == ' ';
        }

        private boolean isLetter(int k) {
            int code = sheet.letterAt(line, k);
            return code != -1 && code != ' ';
        }

        /** Takes the break as the end if it is the first one or the rows fit; tells if they do. */
        private boolean offerEnd(int k) {
            boolean fits = chordRow.size() <= width && lyricRow.size() <= width;
            if (fits || end == NO_BREAK) {
                end = k;
                endChord = chord;
                endChordSize = chordRow.size();
                endLyricSize = lyricRow.size();
            }
            return fits;
        }

        private void cutBack() {
            chordRow.cutTo(endChordSize);
            lyricRow.cutTo(endLyricSize);
        }

        private void placeChords(int column) {
            char filler = isLetter(column - 1) && isLetter(column) ? '-' : ' ';
            while (chord < sheet.chordCount() && sheet.isAt(chord, line, column)) {
                if (chordRow.size() > 0) {
                    lyricRow.fillTo(chordRow.size() + 1, filler);
                }
                chordRow.fillTo(lyricRow.size(), ' ');
                sheet.writeName(chord, chordRow);
                chord++;
            }
        }
    }
}
