/** Promises 1 to 7: a new object, the text and how it is read, the settings. */
public final class TextTest {
    private static final Checks CHECKS = new Checks();

    public static void main(String[] args) {
        newObject();
        type();
        clearText();
        readSheets();
        readWrongTexts();
        readWrongChords();
        readLimits();
        readAgain();
        readKeepsWhatIsNotItsOwn();
        settings();
        CHECKS.end("TextTest");
    }

    private static void newObject() {
        ChordSheet sheet = new ChordSheet();
        CHECKS.due("lines of a new sheet", 1, sheet.lines());
        CHECKS.due("lyrics of a new sheet", 0, sheet.lyrics(0));
        CHECKS.due("chords of a new sheet", 0, sheet.chords());
        CHECKS.due("tonic of a new sheet", 0, sheet.tonic());
        CHECKS.due("mode of a new sheet", false, sheet.isMinor());
        CHECKS.due("signature of a new sheet", 0, sheet.signature());
        CHECKS.due("text of a new sheet", 0, sheet.clearText());
        CHECKS.due("width of a new sheet", 200, sheet.setWidth(20));
        CHECKS.due("simple of a new sheet", true, sheet.setSimple(true));
        CHECKS.due("flats of a new sheet", false, sheet.setFlats(false));
        CHECKS.refused("undo of a new sheet", Checks.STATE, sheet, sheet::undo);
    }

    private static void type() {
        ChordSheet sheet = new ChordSheet();
        CHECKS.due("type the first code", 1, sheet.type(32));
        CHECKS.due("type the last code", 2, sheet.type(126));
        CHECKS.refused("type 31", Checks.ARGUMENT, sheet, () -> sheet.type(31));
        CHECKS.refused("type 127", Checks.ARGUMENT, sheet, () -> sheet.type(127));
        CHECKS.refused("type -1", Checks.ARGUMENT, sheet, () -> sheet.type(-1));
        CHECKS.refused("type 65 + 65536", Checks.ARGUMENT, sheet, () -> sheet.type(65601));
        CHECKS.due("type after refusals", 3, sheet.type('x'));
        for (int k = 4; k <= 200; k++) {
            CHECKS.due("type number " + k, k, sheet.type('x'));
        }
        CHECKS.refused("type number 201", Checks.STATE, sheet, () -> sheet.type('x'));
        CHECKS.refused("a wrong code comes first", Checks.ARGUMENT, sheet, () -> sheet.type(127));
        CHECKS.due("the full text", 200, sheet.clearText());
        CHECKS.due("type after the full text", 1, sheet.type('x'));
    }

    private static void clearText() {
        ChordSheet sheet = new ChordSheet();
        CHECKS.due("clear an empty text", 0, sheet.clearText());
        Checks.typed(sheet, "abc]");
        CHECKS.due("clear a text", 4, sheet.clearText());
        CHECKS.due("clear it again", 0, sheet.clearText());
        CHECKS.due("read the cleared text", 0, sheet.read());
        CHECKS.due("lyrics of the cleared text", 0, sheet.lyrics(0));
    }

    private static void readSheets() {
        ChordSheet sheet = new ChordSheet();
        Checks.typed(sheet, "[C]Hel[Am7/G]lo /[F#dim][Bb]b/");
        CHECKS.due("read", 4, sheet.read());
        CHECKS.due("the text that was read", 0, sheet.clearText());
        CHECKS.due("lines", 3, sheet.lines());
        CHECKS.due("line 0", "Hello ", Checks.lyricsOf(sheet, 0));
        CHECKS.due("line 1", "b", Checks.lyricsOf(sheet, 1));
        CHECKS.due("line 2", "", Checks.lyricsOf(sheet, 2));
        CHECKS.due("chords", "0:0:C 0:3:Am7/G 1:0:F#dim 1:0:Bb", Checks.places(sheet));
        CHECKS.due("read an empty text", 0, sheet.read());
        CHECKS.due("lines of an empty text", 1, sheet.lines());
        CHECKS.due("chords of an empty text", 0, sheet.chords());
        CHECKS.due("key of an empty text", "0", Checks.key(sheet));
        CHECKS.due("key that is found", "3m", Checks.key(Checks.sheet("[Am][Dm][E][Am]")));
        CHECKS.due("chord at the end", "0:2:G", Checks.places(Checks.sheet("ab[G]")));
        CHECKS.due("chord before a line's end", "0:1:G/B",
                Checks.places(Checks.sheet("a[G/B]/b")));
        CHECKS.due("all qualities", "C Cm C7 Cm7 Cmaj7 Cdim Caug Csus4 C6 C9", Checks.names(
                Checks.sheet("[C][Cm][C7][Cm7][Cmaj7][Cdim][Caug][Csus4][C6][C9]")));
    }

    private static void wrong(String text, int index) {
        ChordSheet sheet = Checks.sheet("[D]old");
        long before = sheet.fingerprint();
        Checks.typed(sheet, text);
        CHECKS.due("read " + text, -1 - index, sheet.read());
        CHECKS.due("the sheet behind " + text, before, sheet.fingerprint());
        CHECKS.due("read " + text + " again", -1 - index, sheet.read());
        CHECKS.due("the text is kept: " + text, text.length(), sheet.clearText());
        CHECKS.due("the history behind " + text, 0, sheet.undo());
    }

    private static void readWrongTexts() {
        wrong("]", 0);
        wrong("ab]", 2);
        wrong("[C]]", 3);
        wrong("[", 1);
        wrong("abc[", 4);
        wrong("[C", 2);
        wrong("[C]a[Dm", 7);
        wrong("[C/", 3);
        wrong("[Cma", 4);
        wrong("[]", 1);
        wrong("[C][]]", 4);
        wrong("a/b]/[", 3);
    }

    private static void readWrongChords() {
        wrong("[c]", 1);
        wrong("[H]", 1);
        wrong("[@]", 1);
        wrong("[[", 1);
        wrong("[C[", 2);
        wrong("[C##]", 3);
        wrong("[Cbb]", 3);
        wrong("[C#b]", 3);
        wrong("[Cm#]", 3);
        wrong("[Cma]", 4);
        wrong("[Cmaj]", 5);
        wrong("[Cmaj9]", 5);
        wrong("[Cm9]", 3);
        wrong("[Cm7b]", 4);
        wrong("[C77]", 3);
        wrong("[C69]", 3);
        wrong("[Cdi]", 4);
        wrong("[Cdin]", 4);
        wrong("[Cau]", 4);
        wrong("[Csus]", 5);
        wrong("[Csus2]", 5);
        wrong("[C5]", 2);
        wrong("[C ]", 2);
        wrong("[C/]", 3);
        wrong("[C/m]", 3);
        wrong("[C/Em]", 4);
        wrong("[C/E#b]", 5);
        wrong("[C/E/G]", 4);
        wrong("[/C]", 1);
        wrong("[ C]", 1);
    }

    private static void readLimits() {
        String forty = Checks.repeated("[C]", 40);
        CHECKS.due("forty chords", 40, Checks.readAnswer(new ChordSheet(), forty + "ab"));
        wrong(forty + "[C]", 120);
        wrong(forty + "[", 120);
        wrong(forty + "ab[C]]", 122);
        wrong(forty + "]", 120);
        ChordSheet slashes = Checks.sheet(Checks.repeated("/", 200));
        CHECKS.due("lines of 200 slashes", 201, slashes.lines());
        CHECKS.due("the last of 201 lines", 0, slashes.lyrics(200));
        ChordSheet last = Checks.sheet(Checks.repeated("/", 199) + "z");
        CHECKS.due("the letter of the last of 200 lines", 'z', last.lyric(199, 0));
        ChordSheet letters = Checks.sheet(Checks.repeated("x", 200));
        CHECKS.due("200 letters", 200, letters.lyrics(0));
        wrong(Checks.repeated("x", 199) + "[", 200);
        wrong(Checks.repeated("x", 199) + "]", 199);
    }

    /** Nothing of an earlier sheet may be left in a later one. */
    private static void readAgain() {
        ChordSheet sheet = Checks.sheet("[C]abc/[D]de/f[E]");
        Checks.readAnswer(sheet, "[G]xy/z");
        CHECKS.due("lines of the later one", 2, sheet.lines());
        CHECKS.due("line 0 of the later one", "xy", Checks.lyricsOf(sheet, 0));
        CHECKS.due("line 1 of the later one", "z", Checks.lyricsOf(sheet, 1));
        CHECKS.due("chords of the later one", "0:0:G", Checks.places(sheet));
        CHECKS.due("the later one", Checks.sheet("[G]xy/z").fingerprint(), sheet.fingerprint());
        CHECKS.due("a wrong text", -4, Checks.readAnswer(sheet, "a/b]"));
        Checks.readAnswer(sheet, "w");
        CHECKS.due("the last one", Checks.sheet("w").fingerprint(), sheet.fingerprint());
        CHECKS.refused("an earlier line", Checks.INDEX, sheet, () -> sheet.lyrics(1));
        CHECKS.refused("an earlier letter", Checks.INDEX, sheet, () -> sheet.lyric(1, 0));
        CHECKS.refused("an earlier chord", Checks.INDEX, sheet, () -> sheet.rootOf(0));
        CHECKS.refused("an earlier pair", Checks.INDEX, sheet, () -> sheet.pairs(1));
        CHECKS.refused("an earlier row", Checks.INDEX, sheet, () -> sheet.rowLength(1, 0, 0));
        Checks.typed(sheet, "C");
        CHECKS.refused("add to an earlier line", Checks.INDEX, sheet, () -> sheet.addChord(1, 0));
    }

    private static void readKeepsWhatIsNotItsOwn() {
        ChordSheet sheet = new ChordSheet();
        sheet.setWidth(30);
        sheet.setFlats(true);
        sheet.setSimple(false);
        Checks.readAnswer(sheet, "[G]a");
        CHECKS.due("width behind read", 30, sheet.setWidth(40));
        CHECKS.due("flats behind read", true, sheet.setFlats(false));
        CHECKS.due("simple behind read", false, sheet.setSimple(true));
    }

    private static void settings() {
        ChordSheet sheet = new ChordSheet();
        CHECKS.due("simple at first", true, sheet.setSimple(false));
        CHECKS.due("simple then", false, sheet.setSimple(false));
        CHECKS.due("simple off", false, sheet.setSimple(true));
        CHECKS.due("simple on", true, sheet.setSimple(true));
        CHECKS.due("flats at first", false, sheet.setFlats(true));
        CHECKS.due("flats then", true, sheet.setFlats(true));
        CHECKS.due("flats on", true, sheet.setFlats(false));
        CHECKS.due("flats off", false, sheet.setFlats(false));
        CHECKS.due("width at first", 200, sheet.setWidth(10));
        CHECKS.due("the least width", 10, sheet.setWidth(200));
        CHECKS.refused("width 9", Checks.ARGUMENT, sheet, () -> sheet.setWidth(9));
        CHECKS.refused("width 201", Checks.ARGUMENT, sheet, () -> sheet.setWidth(201));
        CHECKS.refused("width -10", Checks.ARGUMENT, sheet, () -> sheet.setWidth(-10));
        CHECKS.due("the greatest width", 200, sheet.setWidth(77));
        CHECKS.due("another width", 77, sheet.setWidth(77));
        CHECKS.refused("settings are not kept", Checks.STATE, sheet, sheet::undo);
    }
}
