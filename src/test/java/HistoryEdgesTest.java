import java.math.BigInteger;
import java.util.function.Supplier;

/** The edges of the history, of refused calls and of the fingerprint, promises 37 and 38. */
public final class HistoryEdgesTest {
    private static final Checks CHECKS = new Checks();
    private static final String NO_STATE = "throws.IllegalStateException";
    private static final String NO_ARGUMENT = "throws.IllegalArgumentException";
    private static final String NO_INDEX = "throws.IndexOutOfBoundsException";

    public static void main(String[] args) {
        CHECKS.sentence("An object is used for at most 512 calls after it has been made",
                HistoryEdgesTest::all512Calls);
        history();
        exceptions();
        fingerprints();
        CHECKS.end("HistoryEdgesTest");
    }

    private static void history() {
        CHECKS.sentence("A history of at most 8 states is kept.", HistoryEdgesTest::atMost8);
        CHECKS.sentence("if there are 8 already, the oldest one is dropped",
                HistoryEdgesTest::oldestIsDropped);
        CHECKS.sentence("Each call of read(), setKey(), transpose(), respell(), setChord(),"
                + " addChord(), removeChord() and moveChord() .. adds the state before it",
                HistoryEdgesTest::eachCallAdds);
        CHECKS.sentence("that throws no exception", HistoryEdgesTest::refusedAddsNothing);
        CHECKS.sentence("and returns no error of a text", HistoryEdgesTest::errorAddsNothing);
        CHECKS.sentence("undo() removes the latest state and restores it",
                HistoryEdgesTest::latestFirst);
        CHECKS.sentence("the sheet and its key become as they were then",
                HistoryEdgesTest::sheetAndKey);
        CHECKS.sentence("No other call adds a state, and undo restores no setting and no text",
                HistoryEdgesTest::othersAddNothing);
        CHECKS.sentence("undo: Returns how many states the history still has.",
                HistoryEdgesTest::undoAnswers);
        CHECKS.sentence("undo: Throws IllegalStateException if it has none",
                HistoryEdgesTest::undoOfNone);
    }

    private static void exceptions() {
        CHECKS.sentence("A call that throws an exception changes nothing.",
                HistoryEdgesTest::refusedChangesNothing);
        CHECKS.sentence("If several exceptions apply to a call, the one that is listed first is"
                + " thrown.", HistoryEdgesTest::firstOfSeveral);
    }

    private static void fingerprints() {
        CHECKS.sentence("fingerprint: It starts as 47", HistoryEdgesTest::fingerprintOfNew);
        CHECKS.sentence("it becomes 31 times itself plus the number, in long arithmetic with"
                + " overflow", HistoryEdgesTest::fingerprintOverflows);
        CHECKS.sentence("lines(); for each line lyrics() and the codes of its characters",
                HistoryEdgesTest::fingerprintOfLines);
        CHECKS.sentence("for each chord its line, column, root, quality and bass",
                HistoryEdgesTest::fingerprintOfChords);
        CHECKS.sentence("tonic(); 1 if isMinor() or else 0", HistoryEdgesTest::fingerprintOfKeys);
    }

    private static void all512Calls() {
        ChordSheet sheet = new ChordSheet();
        for (int n = 1; n <= 503; n++) {
            CHECKS.due("call " + n, n == 1 ? 0 : (n - 1) % 13 - 6, sheet.setKey(n % 13 - 6, false));
        }
        for (int n = 7; n >= 0; n--) {
            CHECKS.due("undo to " + n, n, sheet.undo());
        }
        CHECKS.due("call 512", 495 % 13 - 6, sheet.tonic());
        ChordSheet typed = new ChordSheet();
        for (int n = 1; n <= 512; n++) {
            CHECKS.due("type number " + n, n <= 200 ? String.valueOf(n) : NO_STATE,
                    Checks.answer(() -> typed.type('x')));
        }
        ChordSheet read = new ChordSheet();
        for (int n = 1; n <= 102; n++) {
            Checks.typed(read, n % 2 == 0 ? "[C]" : "a/b");
            CHECKS.due("read number " + n, n % 2 == 0 ? 1 : 0, read.read());
            CHECKS.due("lines " + n, n % 2 == 0 ? 1 : 2, read.lines());
        }
    }

    /** A sheet with as many states as there are calls, each with another key. */
    private static ChordSheet changed(int calls) {
        ChordSheet sheet = new ChordSheet();
        for (int n = 1; n <= calls; n++) {
            sheet.setKey(n % 7, false);
        }
        return sheet;
    }

    private static int undone(ChordSheet sheet) {
        int states = 0;
        while (states < 20 && !Checks.answer(sheet::undo).equals(NO_STATE)) {
            states++;
        }
        return states;
    }

    private static void atMost8() {
        int[] calls = {0, 1, 7, 8, 9, 10, 15, 16, 17, 100};
        int[] states = {0, 1, 7, 8, 8, 8, 8, 8, 8, 8};
        for (int n = 0; n < calls.length; n++) {
            CHECKS.due("states behind " + calls[n], states[n], undone(changed(calls[n])));
        }
    }

    private static void oldestIsDropped() {
        for (int calls = 0; calls <= 40; calls++) {
            ChordSheet sheet = changed(calls);
            for (int n = calls - 1; n >= 0 && n >= calls - 8; n--) {
                sheet.undo();
                CHECKS.due("the key behind call " + n + " of " + calls, n % 7, sheet.tonic());
            }
            CHECKS.due("no more of " + calls, NO_STATE, Checks.answer(sheet::undo));
        }
    }

    private static void adds(String what, Supplier<ChordSheet> maker, Checks.Use use) {
        int before = undone(maker.get());
        ChordSheet sheet = maker.get();
        long fingerprint = sheet.fingerprint();
        use.of(sheet);
        CHECKS.due(what + " adds one", before, sheet.undo());
        CHECKS.due(what + " is undone", fingerprint, sheet.fingerprint());
    }

    private static ChordSheet some() {
        return Checks.keyed("[B#]a[D/F#]b/[Em]c", 3, true);
    }

    private static ChordSheet typedSome() {
        return Checks.typed(some(), "Am");
    }

    private static void eachCallAdds() {
        adds("read", ChordSheet::new, ChordSheet::read);
        adds("read of a text", () -> Checks.typed(some(), "[C]a"), ChordSheet::read);
        adds("setKey", ChordSheet::new, sheet -> sheet.setKey(-6, false));
        adds("setKey of the same", ChordSheet::new, sheet -> sheet.setKey(0, false));
        adds("transpose", ChordSheet::new, sheet -> sheet.transpose(11));
        adds("transpose by 0", ChordSheet::new, sheet -> sheet.transpose(0));
        adds("transpose of chords", HistoryEdgesTest::some, sheet -> sheet.transpose(-11));
        adds("respell", HistoryEdgesTest::some, ChordSheet::respell);
        adds("respell of nothing", ChordSheet::new, ChordSheet::respell);
        adds("setChord", HistoryEdgesTest::typedSome, sheet -> sheet.setChord(2));
        adds("setChord of the same", () -> Checks.typed(some(), "Em"),
                sheet -> sheet.setChord(2));
        adds("addChord", HistoryEdgesTest::typedSome, sheet -> sheet.addChord(1, 1));
        adds("addChord of the first", () -> Checks.typed(new ChordSheet(), "C"),
                sheet -> sheet.addChord(0, 0));
        adds("removeChord", HistoryEdgesTest::some, sheet -> sheet.removeChord(0));
        adds("removeChord of the only one", () -> Checks.sheet("[C]"),
                sheet -> sheet.removeChord(0));
        adds("moveChord", HistoryEdgesTest::some, sheet -> sheet.moveChord(0, 2));
        adds("moveChord to its column", HistoryEdgesTest::some, sheet -> sheet.moveChord(0, 0));
    }

    private static void addsNothing(String what, Supplier<ChordSheet> maker, Checks.Use use) {
        ChordSheet sheet = maker.get();
        Checks.answer(() -> use.of(sheet));
        CHECKS.due("states behind " + what, undone(maker.get()), undone(sheet));
    }

    private static void refusedAddsNothing() {
        Supplier<ChordSheet> one = HistoryEdgesTest::typedSome;
        Supplier<ChordSheet> full = () -> Checks.typed(
                Checks.sheet(Checks.repeated("[C]", 40)), "C");
        addsNothing("setKey", one, sheet -> sheet.setKey(7, false));
        addsNothing("setKey of a minor key", one, sheet -> sheet.setKey(-4, true));
        addsNothing("transpose by 12", one, sheet -> sheet.transpose(12));
        addsNothing("transpose by -12", one, sheet -> sheet.transpose(-12));
        addsNothing("setChord", one, sheet -> sheet.setChord(3));
        addsNothing("addChord to no line", one, sheet -> sheet.addChord(2, 0));
        addsNothing("addChord at no column", one, sheet -> sheet.addChord(0, 3));
        addsNothing("addChord to 40", full, sheet -> sheet.addChord(0, 0));
        addsNothing("removeChord", one, sheet -> sheet.removeChord(3));
        addsNothing("moveChord", one, sheet -> sheet.moveChord(3, 0));
        addsNothing("moveChord to no column", one, sheet -> sheet.moveChord(0, 3));
        addsNothing("undo of nothing", ChordSheet::new, ChordSheet::undo);
    }

    private static void errorAddsNothing() {
        for (String text : new String[] {"", "[", "]", "Cx", "C/", "C]"}) {
            Supplier<ChordSheet> maker = () -> Checks.typed(some(), text);
            addsNothing("setChord of " + text, maker, sheet -> sheet.setChord(0));
            addsNothing("addChord of " + text, maker, sheet -> sheet.addChord(0, 0));
        }
        for (String text : new String[] {"[", "]", "[Cx]", "[C/", Checks.repeated("[C]", 41)}) {
            addsNothing("read of " + text, () -> Checks.typed(some(), text), ChordSheet::read);
        }
    }

    private static void latestFirst() {
        ChordSheet sheet = Checks.sheet("[C]");
        sheet.setKey(2, false);
        sheet.setKey(-3, true);
        sheet.undo();
        CHECKS.due("the latest", "2", Checks.key(sheet));
        sheet.setKey(4, false);
        sheet.undo();
        CHECKS.due("the latest again", "2", Checks.key(sheet));
        sheet.undo();
        CHECKS.due("the one before", "0", Checks.key(sheet));
        CHECKS.due("its chord", 1, sheet.chords());
        sheet.undo();
        CHECKS.due("the first", 0, sheet.chords());
    }

    private static void sheetAndKey() {
        ChordSheet sheet = Checks.keyed("ab[Cm7/G]/[D]/c", -3, true);
        Checks.readAnswer(sheet, "[F#]x");
        CHECKS.due("the state before", 2, sheet.undo());
        CHECKS.due("the lines", 3, sheet.lines());
        CHECKS.due("line 0", "ab", Checks.lyricsOf(sheet, 0));
        CHECKS.due("line 1", "", Checks.lyricsOf(sheet, 1));
        CHECKS.due("line 2", "c", Checks.lyricsOf(sheet, 2));
        CHECKS.due("the chords", "0:2:Cm7/G 1:0:D", Checks.places(sheet));
        CHECKS.due("the key", "-3m", Checks.key(sheet));
        CHECKS.due("the signature", -6, sheet.signature());
        ChordSheet full = Checks.sheet(Checks.repeated("[C]", 39) + "[Em7/D]"
                + Checks.repeated("a/", 37));
        long before = full.fingerprint();
        Checks.readAnswer(full, Checks.repeated("[F]", 40) + Checks.repeated("/b", 37));
        CHECKS.due("another key", "-1", Checks.key(full));
        full.undo();
        CHECKS.due("40 chords and 38 lines", before, full.fingerprint());
        CHECKS.due("the last chord", "Em7/D", Checks.name(full, 39));
        CHECKS.due("the last line with lyrics", "a", Checks.lyricsOf(full, 36));
        CHECKS.due("the last line", "", Checks.lyricsOf(full, 37));
        Checks.readAnswer(full, Checks.repeated("/", 200));
        Checks.readAnswer(full, Checks.repeated("x", 200));
        full.undo();
        CHECKS.due("201 lines", 201, full.lines());
        CHECKS.due("the last of them", 0, full.lyrics(200));
        Checks.readAnswer(full, Checks.repeated("a/", 100));
        Checks.readAnswer(full, Checks.repeated("y", 200));
        full.undo();
        CHECKS.due("the last of 100 lines with lyrics", "a", Checks.lyricsOf(full, 99));
        CHECKS.due("the line behind it", "", Checks.lyricsOf(full, 100));
        full.undo();
        full.undo();
        CHECKS.due("40 chords again", before, full.fingerprint());
        full.undo();
        CHECKS.due("the new sheet", new ChordSheet().fingerprint(), full.fingerprint());
    }

    private static void othersAddNothing() {
        Checks.Use[] others = {sheet -> sheet.type('x'), ChordSheet::clearText,
            sheet -> sheet.setSimple(false) ? 1 : 0, sheet -> sheet.setFlats(true) ? 1 : 0,
            sheet -> sheet.setWidth(10), ChordSheet::lines, sheet -> sheet.lyrics(0),
            sheet -> sheet.lyric(0, 0), ChordSheet::chords, sheet -> sheet.lineOf(0),
            sheet -> sheet.columnOf(0), sheet -> sheet.rootOf(0), sheet -> sheet.qualityOf(0),
            sheet -> sheet.bassOf(0), sheet -> sheet.nameChar(0, 0),
            sheet -> sheet.commonTones(0), sheet -> sheet.degree(0), ChordSheet::tonic,
            sheet -> sheet.isMinor() ? 1 : 0, ChordSheet::signature,
            sheet -> sheet.score(0, false), ChordSheet::findKey, sheet -> sheet.difficulty(0),
            ChordSheet::bestCapo, sheet -> sheet.pairs(0), sheet -> sheet.rowLength(0, 0, 0),
            sheet -> sheet.rowChar(0, 0, 0, 0), ChordSheet::fingerprint};
        for (int n = 0; n < others.length; n++) {
            addsNothing("call " + n, HistoryEdgesTest::typedSome, others[n]);
        }
        ChordSheet sheet = changed(1);
        sheet.setSimple(false);
        sheet.setFlats(true);
        sheet.setWidth(10);
        Checks.typed(sheet, "abc");
        sheet.undo();
        CHECKS.due("simple", false, sheet.setSimple(true));
        CHECKS.due("flats", true, sheet.setFlats(false));
        CHECKS.due("the width", 10, sheet.setWidth(200));
        CHECKS.due("the text", 3, sheet.clearText());
        Checks.typed(sheet, "[C]").read();
        sheet.undo();
        CHECKS.due("the text that was read", 0, sheet.clearText());
    }

    private static void undoAnswers() {
        for (int calls = 1; calls <= 12; calls++) {
            ChordSheet sheet = changed(calls);
            for (int left = Math.min(calls, 8) - 1; left >= 0; left--) {
                CHECKS.due("undo of " + calls, left, sheet.undo());
            }
        }
        ChordSheet sheet = changed(20);
        sheet.undo();
        sheet.undo();
        sheet.setKey(0, false);
        CHECKS.due("undo between", 6, sheet.undo());
    }

    private static void undoOfNone() {
        CHECKS.changesNothing("undo of a new sheet", NO_STATE,
                () -> Checks.typed(new ChordSheet(), "[C]a"), ChordSheet::undo);
        ChordSheet sheet = changed(9);
        for (int n = 0; n < 8; n++) {
            sheet.undo();
        }
        for (int n = 0; n < 3; n++) {
            CHECKS.due("undo of none", NO_STATE, Checks.answer(sheet::undo));
            CHECKS.due("the key that is left", 1, sheet.tonic());
        }
        sheet.setKey(5, false);
        CHECKS.due("undo of one again", 0, sheet.undo());
        CHECKS.due("its key", 1, sheet.tonic());
    }

    /** With settings, text and history of its own, so that each change would be seen. */
    private static ChordSheet used() {
        ChordSheet sheet = Checks.sheet("[B#]a[D/F#]b b/[Em]c");
        sheet.setKey(-2, true);
        sheet.setWidth(10);
        sheet.setFlats(true);
        sheet.setSimple(false);
        return Checks.typed(sheet, "[Am]x/y");
    }

    private static void refused(String what, String exception, Checks.Use use) {
        CHECKS.changesNothing(what, exception, HistoryEdgesTest::used, use);
    }

    private static void refusedChangesNothing() {
        refused("type", NO_ARGUMENT, sheet -> sheet.type(31));
        CHECKS.changesNothing("type", NO_STATE, () -> Checks.typed(used(),
                Checks.repeated("z", 193)), sheet -> sheet.type('x'));
        refused("setWidth", NO_ARGUMENT, sheet -> sheet.setWidth(201));
        refused("lyrics", NO_INDEX, sheet -> sheet.lyrics(2));
        refused("lyric", NO_INDEX, sheet -> sheet.lyric(1, 1));
        refused("lineOf", NO_INDEX, sheet -> sheet.lineOf(3));
        refused("columnOf", NO_INDEX, sheet -> sheet.columnOf(3));
        refused("rootOf", NO_INDEX, sheet -> sheet.rootOf(3));
        refused("qualityOf", NO_INDEX, sheet -> sheet.qualityOf(3));
        refused("bassOf", NO_INDEX, sheet -> sheet.bassOf(3));
        refused("nameChar", NO_INDEX, sheet -> sheet.nameChar(0, -1));
        refused("setChord", NO_INDEX, sheet -> sheet.setChord(3));
        refused("addChord", NO_INDEX, sheet -> sheet.addChord(1, 2));
        CHECKS.changesNothing("addChord", NO_STATE, () -> Checks.typed(Checks.sheet(
                Checks.repeated("[C]", 40)), "Am"), sheet -> sheet.addChord(0, 0));
        refused("removeChord", NO_INDEX, sheet -> sheet.removeChord(3));
        refused("moveChord", NO_INDEX, sheet -> sheet.moveChord(2, 2));
        refused("commonTones", NO_INDEX, sheet -> sheet.commonTones(2));
        refused("degree", NO_INDEX, sheet -> sheet.degree(3));
        refused("setKey", NO_ARGUMENT, sheet -> sheet.setKey(7, false));
        refused("score", NO_ARGUMENT, sheet -> sheet.score(10, true));
        refused("transpose", NO_ARGUMENT, sheet -> sheet.transpose(-12));
        refused("difficulty", NO_ARGUMENT, sheet -> sheet.difficulty(8));
        refused("pairs", NO_INDEX, sheet -> sheet.pairs(2));
        refused("rowLength", NO_INDEX, sheet -> sheet.rowLength(1, 1, 0));
        refused("rowChar", NO_INDEX, sheet -> sheet.rowChar(0, 0, 0, -1));
        CHECKS.changesNothing("undo", NO_STATE, () -> {
            ChordSheet sheet = used();
            sheet.undo();
            sheet.undo();
            return sheet;
        }, ChordSheet::undo);
    }

    private static void firstOfSeveral() {
        CHECKS.changesNothing("type a wrong code into a full text", NO_ARGUMENT,
                () -> Checks.typed(new ChordSheet(), Checks.repeated("z", 200)),
                sheet -> sheet.type(127));
        Supplier<ChordSheet> full = () -> Checks.typed(Checks.sheet(
                Checks.repeated("[C]", 40) + "a"), "Am");
        CHECKS.changesNothing("add to no line of a full sheet", NO_INDEX, full,
                sheet -> sheet.addChord(1, 0));
        CHECKS.changesNothing("add at no column of a full sheet", NO_INDEX, full,
                sheet -> sheet.addChord(0, 2));
        // An exception comes before the error of a text.
        CHECKS.changesNothing("add a wrong text to a full sheet", NO_STATE,
                () -> Checks.typed(full.get(), "x"), sheet -> sheet.addChord(0, 1));
        CHECKS.changesNothing("add a wrong text nowhere", NO_INDEX,
                () -> Checks.typed(used(), "x"), sheet -> sheet.addChord(0, -1));
        CHECKS.changesNothing("set a wrong text as no chord", NO_INDEX,
                () -> Checks.typed(used(), "x"), sheet -> sheet.setChord(-1));
    }

    private static long hash(long... numbers) {
        long sum = 47;
        for (long number : numbers) {
            sum = sum * 31 + number;
        }
        return sum;
    }

    private static void fingerprintOfNew() {
        // 47 * 31^4 + 31^3, for one line, no lyrics, C, and major.
        CHECKS.due("a new sheet", 43435278L, new ChordSheet().fingerprint());
        CHECKS.due("an empty text", 43435278L, Checks.sheet("").fingerprint());
    }

    private static void fingerprintOverflows() {
        String text = Checks.repeated("~", 200);
        long[] numbers = new long[204];
        numbers[0] = 1;
        numbers[1] = 200;
        for (int k = 2; k < 202; k++) {
            numbers[k] = '~';
        }
        CHECKS.due("200 characters", hash(numbers), Checks.sheet(text).fingerprint());
        BigInteger whole = BigInteger.valueOf(47);
        for (long number : numbers) {
            whole = whole.multiply(BigInteger.valueOf(31)).add(BigInteger.valueOf(number));
        }
        CHECKS.due("it is cut to 64 bits", whole.longValue(), Checks.sheet(text).fingerprint());
        CHECKS.due("13 characters", hash(1, 13, 'a', 'a', 'a', 'a', 'a', 'a', 'a', 'a', 'a', 'a',
                'a', 'a', 'a', 0, 0), Checks.sheet(Checks.repeated("a", 13)).fingerprint());
    }

    private static void fingerprintOfLines() {
        CHECKS.due("empty lines", hash(3, 0, 0, 0, 0, 0), Checks.sheet("//").fingerprint());
        CHECKS.due("lines", hash(3, 2, ' ', '~', 0, 1, 'a', 0, 0),
                Checks.sheet(" ~//a").fingerprint());
        long[] numbers = new long[204];
        numbers[0] = 201;
        CHECKS.due("201 lines", hash(numbers), Checks.sheet(Checks.repeated("/", 200))
                .fingerprint());
    }

    private static void fingerprintOfChords() {
        CHECKS.due("a chord without a bass", hash(1, 0, 0, 0, 0, 0, 100, 0, 0),
                Checks.sheet("[C]").fingerprint());
        CHECKS.due("the flattest", hash(1, 0, 0, 0, -8, 9, -8, 0, 0),
                Checks.keyed("[Fb9/Fb]", 0, false).fingerprint());
        CHECKS.due("the sharpest", hash(1, 0, 0, 0, 12, 1, 12, 0, 0),
                Checks.keyed("[B#m/B#]", 0, false).fingerprint());
        CHECKS.due("chords of two lines", hash(2, 1, 'a', 1, 'b', 0, 1, 2, 0, 100, 1, 0, 4, 1,
                -1, 0, 0), Checks.keyed("a[D]/[Em/F]b", 0, false).fingerprint());
        long[] numbers = new long[2 + 40 * 5 + 2];
        numbers[0] = 1;
        for (int i = 0; i < 40; i++) {
            numbers[2 + 5 * i + 4] = 100;
        }
        CHECKS.due("40 chords", hash(numbers),
                Checks.sheet(Checks.repeated("[C]", 40)).fingerprint());
    }

    private static void fingerprintOfKeys() {
        CHECKS.due("the flattest major", hash(1, 0, -6, 0),
                Checks.keyed("", -6, false).fingerprint());
        CHECKS.due("the sharpest major", hash(1, 0, 6, 0),
                Checks.keyed("", 6, false).fingerprint());
        CHECKS.due("the flattest minor", hash(1, 0, -3, 1),
                Checks.keyed("", -3, true).fingerprint());
        CHECKS.due("the sharpest minor", hash(1, 0, 9, 1),
                Checks.keyed("", 9, true).fingerprint());
    }
}
