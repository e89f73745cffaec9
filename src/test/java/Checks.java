import java.util.function.Supplier;

/** What the tests share: it prints each answer that is not due, and counts them. */
final class Checks {
    interface Call {
        long answer();
    }

    interface Use {
        long of(ChordSheet sheet);
    }

    static final Class<IllegalArgumentException> ARGUMENT = IllegalArgumentException.class;
    static final Class<IllegalStateException> STATE = IllegalStateException.class;
    static final Class<IndexOutOfBoundsException> INDEX = IndexOutOfBoundsException.class;

    // More undos than a history can have.
    private static final int MANY_UNDOS = 12;
    private static final String[] NOTES = {"Fb", "Cb", "Gb", "Db", "Ab", "Eb", "Bb", "F", "C", "G",
        "D", "A", "E", "B", "F#", "C#", "G#", "D#", "A#", "E#", "B#"};

    private String sentence = "";
    private int asked = 0;
    private int wrong = 0;

    /** Runs the tests of one sentence of the document, which is printed with what is wrong. */
    void sentence(String words, Runnable test) {
        sentence = "\"" + words + "\": ";
        if (Boolean.getBoolean("sentences")) {
            System.out.println(sentence);
        }
        int before = asked;
        String got = answer(() -> {
            test.run();
            return asked - before;
        });
        if (got.equals("0") || got.startsWith("throws.")) {
            tell("the test of this sentence asked or threw: " + got);
        }
        sentence = "";
    }

    private void tell(String fault) {
        wrong++;
        System.out.println(sentence + fault);
    }

    void due(String what, long want, long got) {
        asked++;
        if (got != want) {
            tell(what + " answered " + got + ", due is " + want);
        }
    }

    void due(String what, boolean want, boolean got) {
        due(what, want ? 1 : 0, got ? 1 : 0);
    }

    void due(String what, String want, String got) {
        asked++;
        if (!want.equals(got)) {
            tell(what + " answered '" + got + "', due is '" + want + "'");
        }
    }

    /** The very class is asked for: what the machine throws by itself is of a class below it. */
    void refused(String what, Class<? extends RuntimeException> kind, ChordSheet sheet, Call call) {
        long before = sheet.fingerprint();
        due(what, "throws." + kind.getSimpleName(), answer(call));
        due(what + " leaves the sheet as it is", before, sheet.fingerprint());
    }

    /** What the call answers, or throws. behind which the exception's class stands. */
    static String answer(Call call) {
        try {
            return String.valueOf(call.answer());
        } catch (RuntimeException e) {
            return "throws." + e.getClass().getSimpleName();
        }
    }

    /** The call answers what is due, and all is then as if there had been no call. */
    void changesNothing(String what, String want, Supplier<ChordSheet> maker, Use use) {
        ChordSheet used = maker.get();
        due(what, want, answer(() -> use.of(used)));
        due(what + " changes nothing", allOf(maker.get()), allOf(used));
    }

    /** All that later calls can tell: the sheet, its history, the settings and the text. */
    private static String allOf(ChordSheet sheet) {
        StringBuilder all = new StringBuilder();
        all.append(sheet.fingerprint());
        for (int n = 0; n < MANY_UNDOS; n++) {
            all.append(' ').append(answer(sheet::undo)).append(' ').append(sheet.fingerprint());
        }
        all.append(' ').append(sheet.setWidth(200)).append(' ').append(sheet.setSimple(true));
        all.append(' ').append(sheet.setFlats(false)).append(' ').append(sheet.read());
        all.append(' ').append(sheet.fingerprint()).append(' ').append(sheet.clearText());
        return all.toString();
    }

    void end(String title) {
        System.out.println(title + ": " + asked + " answers, " + wrong + " wrong");
        if (wrong != 0) {
            System.exit(1);
        }
    }

    static ChordSheet typed(ChordSheet sheet, String text) {
        for (int k = 0; k < text.length(); k++) {
            sheet.type(text.charAt(k));
        }
        return sheet;
    }

    /** What read() answers for this text; the text is empty afterwards. */
    static int readAnswer(ChordSheet sheet, String text) {
        int answer = typed(sheet, text).read();
        sheet.clearText();
        return answer;
    }

    static ChordSheet sheet(String text) {
        ChordSheet sheet = new ChordSheet();
        int answer = readAnswer(sheet, text);
        if (answer < 0) {
            throw new IllegalArgumentException("read() answered " + answer + " for " + text);
        }
        return sheet;
    }

    /** A sheet with one chord, so that chord 0 can be set. */
    static ChordSheet chord(String chord) {
        return sheet("[" + chord + "]");
    }

    static String name(ChordSheet sheet, int i) {
        StringBuilder name = new StringBuilder();
        for (int k = 0; sheet.nameChar(i, k) != -1; k++) {
            name.append((char) sheet.nameChar(i, k));
        }
        return name.toString();
    }

    /** All names, with a blank between them. */
    static String names(ChordSheet sheet) {
        StringBuilder names = new StringBuilder();
        for (int i = 0; i < sheet.chords(); i++) {
            names.append(i == 0 ? "" : " ").append(name(sheet, i));
        }
        return names.toString();
    }

    /** The chords as line:column:name, with a blank between them. */
    static String places(ChordSheet sheet) {
        StringBuilder places = new StringBuilder();
        for (int i = 0; i < sheet.chords(); i++) {
            places.append(i == 0 ? "" : " ").append(sheet.lineOf(i)).append(':')
                    .append(sheet.columnOf(i)).append(':').append(name(sheet, i));
        }
        return places.toString();
    }

    static String row(ChordSheet sheet, int line, int pair, int row) {
        StringBuilder text = new StringBuilder();
        for (int k = 0; k < sheet.rowLength(line, pair, row); k++) {
            text.append((char) sheet.rowChar(line, pair, row, k));
        }
        return text.toString();
    }

    /** The rows of a line, each with a bar behind it. */
    static String rows(ChordSheet sheet, int line) {
        StringBuilder text = new StringBuilder();
        for (int pair = 0; pair < sheet.pairs(line); pair++) {
            text.append(row(sheet, line, pair, 0)).append('|');
            text.append(row(sheet, line, pair, 1)).append('|');
        }
        return text.toString();
    }

    static String lyricsOf(ChordSheet sheet, int line) {
        StringBuilder text = new StringBuilder();
        for (int k = 0; k < sheet.lyrics(line); k++) {
            text.append((char) sheet.lyric(line, k));
        }
        return text.toString();
    }

    /** The key as its tonic's place, with an m behind it if it is minor. */
    static String key(ChordSheet sheet) {
        return sheet.tonic() + (sheet.isMinor() ? "m" : "");
    }

    /** The written note with this place, from -8 to 12. */
    static String note(int place) {
        return NOTES[place + 8];
    }

    /** A written note with the pitch class of this place, which may have two accidentals. */
    static String sameNote(int place) {
        return note(place < -8 ? place + 12 : place > 12 ? place - 12 : place);
    }

    static ChordSheet keyed(String text, int place, boolean minor) {
        ChordSheet sheet = sheet(text);
        sheet.setKey(place, minor);
        return sheet;
    }

    /** One line and one chord, where five lines with four chords were. */
    static ChordSheet shorter() {
        ChordSheet sheet = sheet("[C]aa/[D]bb/[E]cc/dddd[F]/ee");
        readAnswer(sheet, "[G]x");
        return sheet;
    }

    /** Respelled for the key with two accidentals where it has them. */
    static ChordSheet respelled(String text, int place, boolean minor) {
        ChordSheet sheet = keyed(text, place, minor);
        sheet.setSimple(false);
        sheet.respell();
        return sheet;
    }

    static String repeated(String part, int times) {
        return part.repeat(times);
    }
}
