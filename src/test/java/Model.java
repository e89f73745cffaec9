import java.util.ArrayDeque;
import java.util.ArrayList;
import java.util.Comparator;
import java.util.HashMap;
import java.util.HashSet;
import java.util.List;
import java.util.Map;
import java.util.Set;
import java.util.TreeSet;

/**
 * A second chord sheet, written from the document in another way than the class: it knows all
 * chords by a table, keeps whole states and lays every part out anew. Speed does not matter here.
 */
final class Model {
    private record Key(int tonic, boolean minor) {
        int signature() {
            return minor ? tonic - 3 : tonic;
        }

        boolean isThere() {
            return signature() >= -6 && signature() <= 6 && Math.abs((long) tonic) < 20;
        }
    }

    private record Chord(int line, int column, int root, int quality, int bass) {
        Chord at(int newColumn) {
            return new Chord(line, newColumn, root, quality, bass);
        }

        Chord with(Chord other) {
            return new Chord(line, column, other.root, other.quality, other.bass);
        }
    }

    private record State(List<String> lines, List<Chord> chords, Key key) {
    }

    private static final String[] QUALITIES =
        {"", "m", "7", "m7", "maj7", "dim", "aug", "sus4", "6", "9"};
    private static final int[][] TONES = {{0, 4, 7}, {0, 3, 7}, {0, 4, 7, 10}, {0, 3, 7, 10},
        {0, 4, 7, 11}, {0, 3, 6}, {0, 4, 8}, {0, 5, 7}, {0, 4, 7, 9}, {0, 2, 4, 7, 10}};
    private static final String[] EASY = {"CDEGA", "ADE", "ABCDEG", "ADE"};
    private static final Map<Integer, String> NOTES = new HashMap<>();
    private static final Map<String, Chord> CHORDS = new HashMap<>();
    private static final Set<String> BEGINNINGS = new HashSet<>();

    static {
        String letters = "FCGDAEB";
        String[] signs = {"bb", "b", "", "#", "##"};
        for (int n = 0; n < 7; n++) {
            for (int s = 0; s < 5; s++) {
                NOTES.put(n - 1 + 7 * (s - 2), letters.charAt(n) + signs[s]);
            }
        }
        for (int root = -8; root <= 12; root++) {
            for (int quality = 0; quality < 10; quality++) {
                tell(root, quality, 100);
                for (int bass = -8; bass <= 12; bass++) {
                    tell(root, quality, bass);
                }
            }
        }
    }

    private static void tell(int root, int quality, int bass) {
        Chord chord = new Chord(0, 0, root, quality, bass);
        String name = nameOf(chord);
        CHORDS.put(name, chord);
        for (int k = 0; k <= name.length(); k++) {
            BEGINNINGS.add(name.substring(0, k));
        }
    }

    private final StringBuilder text = new StringBuilder();
    private final ArrayDeque<State> history = new ArrayDeque<>();
    private State now = new State(List.of(""), List.of(), new Key(0, false));
    private boolean simple = true;
    private boolean flats = false;
    private int width = 200;

    private static String nameOf(Chord chord) {
        return NOTES.get(chord.root) + QUALITIES[chord.quality]
                + (chord.bass == 100 ? "" : "/" + NOTES.get(chord.bass));
    }

    private static int pitch(int place) {
        return (7 * place + 1200) % 12;
    }

    private static void require(boolean there) {
        if (!there) {
            throw new IndexOutOfBoundsException();
        }
    }

    private static void requireArgument(boolean fine) {
        if (!fine) {
            throw new IllegalArgumentException();
        }
    }

    private void change(State next) {
        history.addLast(now);
        if (history.size() > 8) {
            history.removeFirst();
        }
        now = next;
    }

    private Chord chordAt(int i) {
        require(i >= 0 && i < now.chords.size());
        return now.chords.get(i);
    }

    private String lineAt(int line) {
        require(line >= 0 && line < now.lines.size());
        return now.lines.get(line);
    }

    long type(int c) {
        requireArgument(c >= 32 && c <= 126);
        if (text.length() == 200) {
            throw new IllegalStateException();
        }
        return text.append((char) c).length();
    }

    long clearText() {
        int before = text.length();
        text.setLength(0);
        return before;
    }

    /** How many characters from the index on begin a chord. */
    private int begun(int from) {
        int length = 0;
        while (from + length < text.length()
                && BEGINNINGS.contains(text.substring(from, from + length + 1))) {
            length++;
        }
        return length;
    }

    long read() {
        List<String> lines = new ArrayList<>();
        List<Chord> chords = new ArrayList<>();
        StringBuilder line = new StringBuilder();
        int k = 0;
        while (k < text.length()) {
            char c = text.charAt(k);
            if (c == ']' || c == '[' && chords.size() == 40) {
                return -1 - k;
            }
            if (c == '[') {
                int end = k + 1 + begun(k + 1);
                Chord chord = CHORDS.get(text.substring(k + 1, end));
                if (end == text.length() || chord == null || text.charAt(end) != ']') {
                    return -1 - end;
                }
                chords.add(new Chord(lines.size(), line.length(), chord.root, chord.quality,
                        chord.bass));
                k = end;
            } else if (c == '/') {
                lines.add(line.toString());
                line.setLength(0);
            } else {
                line.append(c);
            }
            k++;
        }
        lines.add(line.toString());
        text.setLength(0);
        change(new State(lines, chords, bestKey(chords)));
        return chords.size();
    }

    boolean setSimple(boolean on) {
        boolean before = simple;
        simple = on;
        return before;
    }

    boolean setFlats(boolean on) {
        boolean before = flats;
        flats = on;
        return before;
    }

    long setWidth(int next) {
        requireArgument(next >= 10 && next <= 200);
        int before = width;
        width = next;
        return before;
    }

    long lines() {
        return now.lines.size();
    }

    long lyrics(int line) {
        return lineAt(line).length();
    }

    long lyric(int line, int k) {
        require(k >= 0 && k < lineAt(line).length());
        return lineAt(line).charAt(k);
    }

    long chords() {
        return now.chords.size();
    }

    long lineOf(int i) {
        return chordAt(i).line;
    }

    long columnOf(int i) {
        return chordAt(i).column;
    }

    long rootOf(int i) {
        return chordAt(i).root;
    }

    long qualityOf(int i) {
        return chordAt(i).quality;
    }

    long bassOf(int i) {
        return chordAt(i).bass;
    }

    private static long signOf(String row, int k) {
        require(k >= 0);
        return k < row.length() ? row.charAt(k) : -1;
    }

    long nameChar(int i, int k) {
        return signOf(nameOf(chordAt(i)), k);
    }

    private State with(List<Chord> chords) {
        return new State(now.lines, chords, now.key);
    }

    /** The chord that the text is, or null: then the answer is -1 minus what begun(0) tells. */
    private Chord typed() {
        return begun(0) == text.length() ? CHORDS.get(text.toString()) : null;
    }

    long setChord(int i) {
        Chord old = chordAt(i);
        Chord chord = typed();
        if (chord == null) {
            return -1 - begun(0);
        }
        text.setLength(0);
        List<Chord> chords = new ArrayList<>(now.chords);
        chords.set(i, old.with(chord));
        change(with(chords));
        return 0;
    }

    /** A stable sort puts it behind all others that are not to the right, as it is put last. */
    private static int putLast(List<Chord> chords, Chord chord) {
        chords.add(chord);
        chords.sort(Comparator.comparingInt(Chord::line).thenComparingInt(Chord::column));
        for (int i = 0; i < chords.size(); i++) {
            if (chords.get(i) == chord) {
                return i;
            }
        }
        return -1;
    }

    long addChord(int line, int column) {
        require(column >= 0 && column <= lineAt(line).length());
        if (now.chords.size() == 40) {
            throw new IllegalStateException();
        }
        Chord chord = typed();
        if (chord == null) {
            return -1 - begun(0);
        }
        text.setLength(0);
        List<Chord> chords = new ArrayList<>(now.chords);
        int at = putLast(chords, new Chord(line, column, 0, 0, 0).with(chord));
        change(with(chords));
        return at;
    }

    long removeChord(int i) {
        chordAt(i);
        List<Chord> chords = new ArrayList<>(now.chords);
        chords.remove(i);
        change(with(chords));
        return chords.size();
    }

    long moveChord(int i, int column) {
        Chord chord = chordAt(i);
        require(column >= 0 && column <= lineAt(chord.line).length());
        List<Chord> chords = new ArrayList<>(now.chords);
        chords.remove(i);
        int at = putLast(chords, chord.at(column));
        change(with(chords));
        return at;
    }

    private Set<Integer> tones(Chord chord) {
        Set<Integer> tones = new TreeSet<>();
        for (int tone : TONES[chord.quality]) {
            tones.add((pitch(chord.root) + tone) % 12);
        }
        if (chord.bass != 100) {
            tones.add(pitch(chord.bass));
        }
        return tones;
    }

    long commonTones(int i) {
        require(i != Integer.MAX_VALUE);
        Chord next = chordAt(i + 1);
        Set<Integer> tones = tones(chordAt(i));
        tones.retainAll(tones(next));
        return tones.size();
    }

    private static Set<Integer> scale(Key key) {
        Set<Integer> scale = new TreeSet<>();
        for (int place = key.signature() - 1; place <= key.signature() + 5; place++) {
            scale.add(pitch(place));
        }
        return scale;
    }

    long degree(int i) {
        int root = pitch(chordAt(i).root);
        List<Integer> upward = new ArrayList<>();
        for (int step = 0; step < 12; step++) {
            int note = (pitch(now.key.tonic) + step) % 12;
            if (scale(now.key).contains(note)) {
                upward.add(note);
            }
        }
        return upward.indexOf(root) + 1;
    }

    long tonic() {
        return now.key.tonic;
    }

    boolean isMinor() {
        return now.key.minor;
    }

    long signature() {
        return now.key.signature();
    }

    long setKey(int place, boolean minor) {
        Key key = new Key(place, minor);
        requireArgument(key.isThere());
        int before = now.key.signature();
        change(new State(now.lines, now.chords, key));
        return before;
    }

    private static int scoreOf(List<Chord> chords, Key key) {
        int score = 0;
        for (Chord chord : chords) {
            boolean onTonic = pitch(chord.root) == pitch(key.tonic);
            boolean minor = List.of(1, 3, 5).contains(chord.quality);
            score += scale(key).contains(pitch(chord.root)) ? 2 : 0;
            score += onTonic ? 1 : 0;
            score += onTonic && minor == key.minor ? 1 : 0;
            score += onTonic && chord == chords.get(chords.size() - 1) ? 2 : 0;
        }
        return score;
    }

    long score(int place, boolean minor) {
        Key key = new Key(place, minor);
        requireArgument(key.isThere());
        return scoreOf(now.chords, key);
    }

    private static Key bestKey(List<Chord> chords) {
        List<Key> keys = new ArrayList<>();
        for (int tonic = -6; tonic <= 9; tonic++) {
            keys.add(new Key(tonic, true));
            keys.add(new Key(tonic, false));
        }
        keys.removeIf(key -> !key.isThere());
        keys.sort(Comparator.comparingInt((Key key) -> -scoreOf(chords, key))
                .thenComparing(Key::minor)
                .thenComparingInt(key -> Math.abs(key.signature()))
                .thenComparingInt(key -> key.signature() > 0 ? 0 : 1));
        return keys.get(0);
    }

    long findKey() {
        Key key = bestKey(now.chords);
        return key.tonic + (key.minor ? 100 : 0);
    }

    private int spelled(int pitch, Key key) {
        for (int place = key.signature() - 3; place <= key.signature() + 8; place++) {
            if (pitch(place) == pitch && (!simple || NOTES.get(place).length() < 3)) {
                return place;
            }
        }
        for (int place = -1; place <= 5; place++) {
            if (pitch(place) == pitch) {
                return place;
            }
        }
        throw new AssertionError("no note for " + pitch);
    }

    private List<Chord> raised(int semitones, Key key) {
        List<Chord> chords = new ArrayList<>();
        for (Chord chord : now.chords) {
            int root = spelled((pitch(chord.root) + semitones + 12) % 12, key);
            int bass = chord.bass == 100 ? 100
                    : spelled((pitch(chord.bass) + semitones + 12) % 12, key);
            chords.add(new Chord(chord.line, chord.column, root, chord.quality, bass));
        }
        return chords;
    }

    long transpose(int semitones) {
        requireArgument(semitones >= -11 && semitones <= 11);
        int tonic = (pitch(now.key.tonic) + semitones + 12) % 12;
        Key best = null;
        for (int place = -6; place <= 9; place++) {
            Key key = new Key(place, now.key.minor);
            if (key.isThere() && pitch(place) == tonic) {
                int size = Math.abs(key.signature());
                if (best == null || size < Math.abs(best.signature())
                        || size == 6 && key.signature() == (flats ? -6 : 6)) {
                    best = key;
                }
            }
        }
        change(new State(now.lines, raised(semitones, best), best));
        return best.signature();
    }

    long respell() {
        List<Chord> chords = raised(0, now.key);
        int changed = 0;
        for (int i = 0; i < chords.size(); i++) {
            changed += chords.get(i).root == now.chords.get(i).root ? 0 : 1;
            changed += chords.get(i).bass == now.chords.get(i).bass ? 0 : 1;
        }
        change(with(chords));
        return changed;
    }

    private static boolean isEasy(int pitch, int quality) {
        if (quality > 3) {
            return false;
        }
        for (char letter : EASY[quality].toCharArray()) {
            if (pitch(CHORDS.get(String.valueOf(letter)).root) == pitch) {
                return true;
            }
        }
        return false;
    }

    long difficulty(int fret) {
        requireArgument(fret >= 0 && fret <= 7);
        int sum = fret;
        for (int i = 0; i < now.chords.size(); i++) {
            Chord chord = now.chords.get(i);
            int root = (pitch(chord.root) - fret + 12) % 12;
            boolean easy = isEasy(root, chord.quality);
            sum += easy ? 1 : 4;
            sum += chord.quality > 3 ? 1 : 0;
            sum += chord.bass != 100 && pitch(chord.bass) != pitch(chord.root) ? 1 : 0;
            if (i + 1 < now.chords.size()) {
                Chord next = now.chords.get(i + 1);
                int nextRoot = (pitch(next.root) - fret + 12) % 12;
                sum += !easy && !isEasy(nextRoot, next.quality) && root != nextRoot ? 1 : 0;
            }
        }
        return sum;
    }

    long bestCapo() {
        int best = 0;
        for (int fret = 7; fret >= 0; fret--) {
            best = difficulty(fret) <= difficulty(best) ? fret : best;
        }
        return best;
    }

    private static String filled(String row, int length, char sign) {
        return length <= row.length() ? row : row + String.valueOf(sign).repeat(
                length - row.length());
    }

    /** The chord row and the lyric row of a part. */
    private String[] part(int line, int from, int to) {
        String all = now.lines.get(line);
        String chordRow = "";
        String lyricRow = "";
        for (int k = from; k < to || k == to && to == all.length(); k++) {
            for (Chord chord : now.chords) {
                if (chord.line != line || chord.column != k) {
                    continue;
                }
                if (!chordRow.isEmpty() && lyricRow.length() < chordRow.length() + 1) {
                    boolean inWord = k > 0 && k < all.length() && all.charAt(k - 1) != ' '
                            && all.charAt(k) != ' ';
                    lyricRow = filled(lyricRow, chordRow.length() + 1, inWord ? '-' : ' ');
                }
                chordRow = filled(chordRow, lyricRow.length(), ' ') + nameOf(chord);
            }
            lyricRow += k < to ? String.valueOf(all.charAt(k)) : "";
        }
        return new String[] {chordRow, lyricRow};
    }

    private List<String[]> layout(int line) {
        String all = lineAt(line);
        List<String[]> pairs = new ArrayList<>();
        TreeSet<Integer> breaks = new TreeSet<>(List.of(all.length()));
        for (int k = 1; k < all.length(); k++) {
            if (all.charAt(k) != ' ' && all.charAt(k - 1) == ' ') {
                breaks.add(k);
            }
        }
        int from = 0;
        do {
            Integer end = breaks.higher(from);
            int best = end == null ? all.length() : end;
            for (int to : breaks.tailSet(from, false)) {
                String[] rows = part(line, from, to);
                if (rows[0].length() <= width && rows[1].length() <= width) {
                    best = to;
                }
            }
            pairs.add(part(line, from, best));
            from = best;
        } while (from < all.length());
        return pairs;
    }

    long pairs(int line) {
        return layout(line).size();
    }

    private String row(int line, int pair, int row) {
        List<String[]> pairs = layout(line);
        require(pair >= 0 && pair < pairs.size() && (row == 0 || row == 1));
        return pairs.get(pair)[row];
    }

    long rowLength(int line, int pair, int row) {
        return row(line, pair, row).length();
    }

    long rowChar(int line, int pair, int row, int k) {
        return signOf(row(line, pair, row), k);
    }

    long undo() {
        if (history.isEmpty()) {
            throw new IllegalStateException();
        }
        now = history.removeLast();
        return history.size();
    }

    long fingerprint() {
        List<Long> numbers = new ArrayList<>();
        numbers.add((long) now.lines.size());
        for (String line : now.lines) {
            numbers.add((long) line.length());
            line.chars().forEach(c -> numbers.add((long) c));
        }
        for (Chord chord : now.chords) {
            for (int number : new int[] {chord.line, chord.column, chord.root, chord.quality,
                chord.bass}) {
                numbers.add((long) number);
            }
        }
        numbers.add((long) now.key.tonic);
        numbers.add(now.key.minor ? 1L : 0L);
        long sum = 47;
        for (long number : numbers) {
            sum = 31 * sum + number;
        }
        return sum;
    }
}
