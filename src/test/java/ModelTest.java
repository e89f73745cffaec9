/** Long runs of calls, each answer compared with that of the model; all promises at once. */
public final class ModelTest {
    private static final int RUNS = 3000;
    private static final int CALLS = 512;
    private static final int[] ODD =
        {Integer.MIN_VALUE, -100, -13, -12, -2, -1, 7, 8, 10, 12, 41, 127, 201, Integer.MAX_VALUE};
    private static final String[] ROOTS = {"C", "D", "E", "F", "G", "A", "B", "C#", "F#", "Bb",
        "Eb", "Gb", "B#", "E#", "Fb", "Cb", "D#", "G#", "A#", "Ab", "Db"};
    private static final String[] QUALITIES =
        {"", "", "m", "m", "7", "m7", "maj7", "dim", "aug", "sus4", "6", "9"};
    private static final String[] WORDS =
        {"a", "hello", " ", "  ", "wonderful", "of ", "the ", "/", "o", "-", "~", "love "};
    private static final String WRONG = "][#bmaj7dimsu4g69/ CHcxyz";

    private final Model model = new Model();
    private final ChordSheet sheet = new ChordSheet();
    private final StringBuilder log = new StringBuilder();
    private long seed;
    private int calls = 0;
    private int wrong = 0;

    private ModelTest(long seed) {
        // Neighbouring seeds would begin alike without this.
        this.seed = seed * 0x9E3779B97F4A7C15L;
    }

    public static void main(String[] args) {
        int wrongRuns = 0;
        for (int run = 0; run < RUNS && wrongRuns < 3; run++) {
            ModelTest test = new ModelTest(run);
            while (test.calls < CALLS && test.wrong == 0) {
                test.step();
            }
            if (test.wrong > 0) {
                wrongRuns++;
                System.out.println("run " + run + ":\n" + test.log);
            }
        }
        System.out.println("ModelTest: " + RUNS + " runs, " + wrongRuns + " wrong");
        if (wrongRuns > 0) {
            System.exit(1);
        }
    }

    /** A row of fixed numbers, the same in each session: 0 to below the bound. */
    private int next(int bound) {
        seed = seed * 6364136223846793005L + 1442695040888963407L;
        return (int) ((seed >>> 33) % bound);
    }

    private String pick(String[] words) {
        return words[next(words.length)];
    }

    /** Mostly one of the numbers below the count, now and then one far off. */
    private int index(int count) {
        if (next(12) == 0) {
            return ODD[next(ODD.length)];
        }
        return count > 0 && next(20) > 0 ? next(count) : count;
    }

    private String chordText() {
        String bass = next(4) == 0 ? "/" + pick(ROOTS) : "";
        return spoilt(pick(ROOTS) + pick(QUALITIES) + bass, 12);
    }

    /** One in some texts has a character changed, added or dropped. */
    private String spoilt(String text, int one) {
        if (next(one) > 0) {
            return text;
        }
        int at = next(text.length() + 1);
        int to = Math.min(text.length(), at + next(2));
        String put = next(3) == 0 ? "" : String.valueOf(WRONG.charAt(next(WRONG.length())));
        return text.substring(0, at) + put + text.substring(to);
    }

    private String sheetText() {
        int length = next(5) == 0 ? next(200) : next(60);
        int density = 1 + next(4);
        StringBuilder text = new StringBuilder();
        while (text.length() < length) {
            if (next(4) < density) {
                text.append('[').append(pick(ROOTS)).append(pick(QUALITIES));
                text.append(next(5) == 0 ? "/" + pick(ROOTS) : "").append(']');
            }
            text.append(next(3) > 0 ? pick(WORDS) : "");
        }
        return spoilt(text.toString(), 6);
    }

    private void step() {
        switch (next(16)) {
            case 0 -> readSome();
            case 1 -> editChords();
            case 2 -> editChords();
            case 3 -> settings();
            case 4 -> changeKey();
            case 5 -> same("undo", model::undo, sheet::undo);
            case 6, 7, 8 -> askLayout();
            case 9, 10 -> askChord();
            case 11 -> askLyrics();
            case 12 -> askKey();
            case 13 -> askCapo();
            case 14 -> layOutAll();
            default -> same("fingerprint", model::fingerprint, sheet::fingerprint);
        }
    }

    private void typeAll(String text) {
        for (int k = 0; k < text.length(); k++) {
            int c = text.charAt(k);
            same("type " + (char) c, () -> model.type(c), () -> sheet.type(c));
        }
    }

    private void readSome() {
        typeAll(sheetText());
        same("read", model::read, sheet::read);
        if (next(10) > 0) {
            same("clearText", model::clearText, sheet::clearText);
        }
        int odd = ODD[next(ODD.length)];
        same("type " + odd, () -> model.type(odd), () -> sheet.type(odd));
        same("fingerprint", model::fingerprint, sheet::fingerprint);
        if (next(10) > 0) {
            same("clearText", model::clearText, sheet::clearText);
        }
    }

    private void editChords() {
        int i = index(sheet.chords());
        int line = index(sheet.lines());
        int column = index(line >= 0 && line < sheet.lines() ? sheet.lyrics(line) + 1 : 3);
        int kind = next(8);
        if (kind == 0) {
            same("removeChord " + i, () -> model.removeChord(i), () -> sheet.removeChord(i));
        } else if (kind < 4) {
            int to = i >= 0 && i < sheet.chords()
                    ? index(sheet.lyrics(sheet.lineOf(i)) + 1) : column;
            same("moveChord " + i + " " + to, () -> model.moveChord(i, to),
                    () -> sheet.moveChord(i, to));
        } else {
            if (next(10) > 0) {
                same("clearText", model::clearText, sheet::clearText);
            }
            typeAll(chordText());
            if (kind < 6) {
                same("setChord " + i, () -> model.setChord(i), () -> sheet.setChord(i));
            } else {
                same("addChord " + line + " " + column, () -> model.addChord(line, column),
                        () -> sheet.addChord(line, column));
            }
        }
        same("fingerprint", model::fingerprint, sheet::fingerprint);
    }

    private void settings() {
        boolean on = next(2) == 0;
        int width = next(4) == 0 ? 8 + next(195) : 9 + next(20);
        switch (next(3)) {
            case 0 -> same("setSimple " + on, () -> model.setSimple(on) ? 1 : 0,
                    () -> sheet.setSimple(on) ? 1 : 0);
            case 1 -> same("setFlats " + on, () -> model.setFlats(on) ? 1 : 0,
                    () -> sheet.setFlats(on) ? 1 : 0);
            default -> same("setWidth " + width, () -> model.setWidth(width),
                    () -> sheet.setWidth(width));
        }
    }

    private void changeKey() {
        boolean minor = next(2) == 0;
        int place = next(10) == 0 ? ODD[next(ODD.length)] : next(13) - (minor ? 3 : 6);
        int semitones = next(10) == 0 ? ODD[next(ODD.length)] : next(23) - 11;
        switch (next(4)) {
            case 0 -> same("setKey " + place + " " + minor, () -> model.setKey(place, minor),
                    () -> sheet.setKey(place, minor));
            case 1 -> same("respell", model::respell, sheet::respell);
            default -> same("transpose " + semitones, () -> model.transpose(semitones),
                    () -> sheet.transpose(semitones));
        }
        same("fingerprint", model::fingerprint, sheet::fingerprint);
    }

    private void askLayout() {
        int line = index(sheet.lines());
        boolean there = line >= 0 && line < sheet.lines();
        int pair = index(there ? sheet.pairs(line) : 1);
        int row = next(20) == 0 ? ODD[next(ODD.length)] : next(2);
        int k = next(20) == 0 ? ODD[next(ODD.length)] : next(next(3) == 0 ? 100 : 20);
        switch (next(3)) {
            case 0 -> same("pairs " + line, () -> model.pairs(line), () -> sheet.pairs(line));
            case 1 -> same("rowLength " + line + " " + pair + " " + row,
                    () -> model.rowLength(line, pair, row),
                    () -> sheet.rowLength(line, pair, row));
            default -> same("rowChar " + line + " " + pair + " " + row + " " + k,
                    () -> model.rowChar(line, pair, row, k),
                    () -> sheet.rowChar(line, pair, row, k));
        }
    }

    /** All rows of a line, as one call in the count of calls. */
    private void layOutAll() {
        int line = next(sheet.lines());
        int before = calls;
        same("pairs " + line, () -> model.pairs(line), () -> sheet.pairs(line));
        for (int pair = 0; pair < sheet.pairs(line); pair++) {
            for (int row = 0; row < 2; row++) {
                int p = pair;
                int r = row;
                same("rowLength " + line + " " + p + " " + r, () -> model.rowLength(line, p, r),
                        () -> sheet.rowLength(line, p, r));
                for (int at = 0; at <= Math.min(40, sheet.rowLength(line, p, r)); at++) {
                    int k = at;
                    same("rowChar " + line + " " + p + " " + r + " " + k,
                            () -> model.rowChar(line, p, r, k),
                            () -> sheet.rowChar(line, p, r, k));
                }
            }
        }
        calls = before + 1;
    }

    private void askChord() {
        int i = index(sheet.chords());
        int k = next(10) == 0 ? ODD[next(ODD.length)] : next(8);
        same("chords", model::chords, sheet::chords);
        same("lineOf " + i, () -> model.lineOf(i), () -> sheet.lineOf(i));
        same("columnOf " + i, () -> model.columnOf(i), () -> sheet.columnOf(i));
        same("rootOf " + i, () -> model.rootOf(i), () -> sheet.rootOf(i));
        same("qualityOf " + i, () -> model.qualityOf(i), () -> sheet.qualityOf(i));
        same("bassOf " + i, () -> model.bassOf(i), () -> sheet.bassOf(i));
        same("nameChar " + i + " " + k, () -> model.nameChar(i, k), () -> sheet.nameChar(i, k));
        same("commonTones " + i, () -> model.commonTones(i), () -> sheet.commonTones(i));
        same("degree " + i, () -> model.degree(i), () -> sheet.degree(i));
    }

    private void askLyrics() {
        int line = index(sheet.lines());
        int k = index(line >= 0 && line < sheet.lines() ? sheet.lyrics(line) : 3);
        same("lines", model::lines, sheet::lines);
        same("lyrics " + line, () -> model.lyrics(line), () -> sheet.lyrics(line));
        same("lyric " + line + " " + k, () -> model.lyric(line, k), () -> sheet.lyric(line, k));
    }

    private void askKey() {
        boolean minor = next(2) == 0;
        int place = next(10) == 0 ? ODD[next(ODD.length)] : next(13) - (minor ? 3 : 6);
        same("tonic", model::tonic, sheet::tonic);
        same("isMinor", () -> model.isMinor() ? 1 : 0, () -> sheet.isMinor() ? 1 : 0);
        same("signature", model::signature, sheet::signature);
        same("score " + place + " " + minor, () -> model.score(place, minor),
                () -> sheet.score(place, minor));
        same("findKey", model::findKey, sheet::findKey);
    }

    private void askCapo() {
        int fret = index(8);
        same("difficulty " + fret, () -> model.difficulty(fret), () -> sheet.difficulty(fret));
        same("bestCapo", model::bestCapo, sheet::bestCapo);
    }

    private void same(String what, Checks.Call due, Checks.Call got) {
        String want = Checks.answer(due);
        String have = Checks.answer(got);
        calls++;
        if (wrong == 0) {
            log.append(what).append(" -> ").append(have).append('\n');
        }
        if (!want.equals(have)) {
            wrong++;
            log.append("   due is ").append(want).append('\n');
        }
    }
}
