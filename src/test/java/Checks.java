/** What the tests share: it prints each answer that is not due, and counts them. */
final class Checks {
    interface Call {
        long answer();
    }

    static final Class<IllegalArgumentException> ARGUMENT = IllegalArgumentException.class;
    static final Class<IllegalStateException> STATE = IllegalStateException.class;
    static final Class<IndexOutOfBoundsException> INDEX = IndexOutOfBoundsException.class;

    private int asked = 0;
    private int wrong = 0;

    void due(String what, long want, long got) {
        asked++;
        if (got != want) {
            wrong++;
            System.out.println(what + " answered " + got + ", due is " + want);
        }
    }

    void due(String what, boolean want, boolean got) {
        due(what, want ? 1 : 0, got ? 1 : 0);
    }

    void due(String what, String want, String got) {
        asked++;
        if (!want.equals(got)) {
            wrong++;
            System.out.println(what + " answered '" + got + "', due is '" + want + "'");
        }
    }

    /** The very class is asked for: what the machine throws by itself is of a class below it. */
    void refused(String what, Class<? extends RuntimeException> kind, ChordSheet sheet, Call call) {
        asked++;
        long before = sheet.fingerprint();
        String got = "no exception";
        try {
            call.answer();
        } catch (RuntimeException e) {
            got = e.getClass().getSimpleName();
        }
        if (!got.equals(kind.getSimpleName())) {
            wrong++;
            System.out.println(what + " gave " + got + ", due is " + kind.getSimpleName());
        }
        due(what + " leaves the sheet as it is", before, sheet.fingerprint());
    }

    void end(String title) {
        System.out.println(title + ": " + asked + " answers, " + wrong + " wrong");
        if (wrong != 0) {
            System.exit(1);
        }
    }

    static ChordSheet typed(ChordSheet sheet, String text) {
        for (int k = 0; k < text.length(); k++) {
            sheet.type(text.charAt(k));
        }
        return sheet;
    }

    /** What read() answers for this text; the text is empty afterwards. */
    static int readAnswer(ChordSheet sheet, String text) {
        int answer = typed(sheet, text).read();
        sheet.clearText();
        return answer;
    }

    static ChordSheet sheet(String text) {
        ChordSheet sheet = new ChordSheet();
        int answer = readAnswer(sheet, text);
        if (answer < 0) {
            throw new IllegalArgumentException("read() answered " + answer + " for " + text);
        }
        return sheet;
    }

    /** A sheet with one chord, so that chord 0 can be set. */
    static ChordSheet chord(String chord) {
        return sheet("[" + chord + "]");
    }

    static String name(ChordSheet sheet, int i) {
        StringBuilder name = new StringBuilder();
        for (int k = 0; sheet.nameChar(i, k) != -1; k++) {
            name.append((char) sheet.nameChar(i, k));
        }
        return name.toString();
    }

    /** All names, with a blank between them. */
    static String names(ChordSheet sheet) {
        StringBuilder names = new StringBuilder();
        for (int i = 0; i < sheet.chords(); i++) {
            names.append(i == 0 ? "" : " ").append(name(sheet, i));
        }
        return names.toString();
    }

    /** The chords as line:column:name, with a blank between them. */
    static String places(ChordSheet sheet) {
        StringBuilder places = new StringBuilder();
        for (int i = 0; i < sheet.chords(); i++) {
            places.append(i == 0 ? "" : " ").append(sheet.lineOf(i)).append(':')
                    .append(sheet.columnOf(i)).append(':').append(name(sheet, i));
        }
        return places.toString();
    }

    static String row(ChordSheet sheet, int line, int pair, int row) {
        StringBuilder text = new StringBuilder();
        for (int k = 0; k < sheet.rowLength(line, pair, row); k++) {
            text.append((char) sheet.rowChar(line, pair, row, k));
        }
        return text.toString();
    }

    /** The rows of a line, each with a bar behind it. */
    static String rows(ChordSheet sheet, int line) {
        StringBuilder text = new StringBuilder();
        for (int pair = 0; pair < sheet.pairs(line); pair++) {
            text.append(row(sheet, line, pair, 0)).append('|');
            text.append(row(sheet, line, pair, 1)).append('|');
        }
        return text.toString();
    }

    static String lyricsOf(ChordSheet sheet, int line) {
        StringBuilder text = new StringBuilder();
        for (int k = 0; k < sheet.lyrics(line); k++) {
            text.append((char) sheet.lyric(line, k));
        }
        return text.toString();
    }

    /** The key as its tonic's place, with an m behind it if it is minor. */
    static String key(ChordSheet sheet) {
        return sheet.tonic() + (sheet.isMinor() ? "m" : "");
    }

    static String repeated(String part, int times) {
        return part.repeat(times);
    }
}
