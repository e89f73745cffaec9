/** Promises 37 and 38: undo and the fingerprint. */
public final class HistoryTest {
    private static final Checks CHECKS = new Checks();

    public static void main(String[] args) {
        undoEachCall();
        undoKey();
        atMostEight();
        undoAndGoOn();
        whatIsNotKept();
        whatUndoLeaves();
        fingerprint();
        fingerprintOfEachPart();
        CHECKS.end("HistoryTest");
    }

    private static void undone(String what, ChordSheet sheet, long before) {
        CHECKS.due(what + " is another sheet", false, before == sheet.fingerprint());
        CHECKS.due("states left behind " + what, 1, sheet.undo());
        CHECKS.due(what + " undone", before, sheet.fingerprint());
    }

    private static void undoEachCall() {
        ChordSheet sheet = Checks.sheet("[B#]a[D/F#]b/[Em]c");
        long before = sheet.fingerprint();
        Checks.readAnswer(sheet, "x");
        undone("read", sheet, before);
        sheet.setKey(9, true);
        undone("setKey", sheet, before);
        sheet.transpose(3);
        undone("transpose", sheet, before);
        sheet.respell();
        undone("respell", sheet, before);
        Checks.typed(sheet, "A").setChord(1);
        undone("setChord", sheet, before);
        Checks.typed(sheet, "A").addChord(1, 0);
        undone("addChord", sheet, before);
        sheet.removeChord(0);
        undone("removeChord", sheet, before);
        sheet.moveChord(0, 2);
        undone("moveChord", sheet, before);
        CHECKS.due("undo the first read", 0, sheet.undo());
        CHECKS.due("the new sheet", new ChordSheet().fingerprint(), sheet.fingerprint());
        CHECKS.refused("undo once more", Checks.STATE, sheet, sheet::undo);
    }

    private static void undoKey() {
        ChordSheet sheet = Checks.sheet("[Am]");
        sheet.setKey(-6, false);
        sheet.transpose(1);
        Checks.readAnswer(sheet, "[D]");
        CHECKS.due("the key that was found", "2", Checks.key(sheet));
        sheet.undo();
        CHECKS.due("the key before read", "1", Checks.key(sheet));
        CHECKS.due("the chord before read", "Bbm", Checks.names(sheet));
        sheet.undo();
        CHECKS.due("the key before transpose", "-6", Checks.key(sheet));
        sheet.undo();
        CHECKS.due("the key before setKey", "3m", Checks.key(sheet));
    }

    private static void atMostEight() {
        ChordSheet sheet = new ChordSheet();
        for (int place = 1; place <= 6; place++) {
            sheet.setKey(place, false);
        }
        for (int place = 1; place <= 6; place++) {
            sheet.setKey(-place, false);
        }
        int[] keys = {-5, -4, -3, -2, -1, 6, 5, 4};
        for (int n = 0; n < 8; n++) {
            CHECKS.due("states left", 7 - n, sheet.undo());
            CHECKS.due("tonic " + n, keys[n], sheet.tonic());
        }
        CHECKS.refused("a ninth undo", Checks.STATE, sheet, sheet::undo);
        CHECKS.due("the key that is left", 4, sheet.tonic());
    }

    private static void undoAndGoOn() {
        ChordSheet sheet = new ChordSheet();
        for (int n = 0; n < 50; n++) {
            sheet.setKey(n % 7, false);
            sheet.setKey(n % 5, true);
            CHECKS.due("states left", Math.min(n + 1, 7), sheet.undo());
            CHECKS.due("tonic", n % 7, sheet.tonic());
        }
        CHECKS.due("states left", 6, sheet.undo());
        CHECKS.due("tonic", 48 % 7, sheet.tonic());
        sheet.setKey(6, false);
        CHECKS.due("states left", 6, sheet.undo());
        CHECKS.due("tonic", 48 % 7, sheet.tonic());
    }

    private static void whatIsNotKept() {
        ChordSheet sheet = Checks.sheet("[C]a[D]b");
        sheet.type('x');
        sheet.clearText();
        sheet.setSimple(false);
        sheet.setFlats(true);
        sheet.setWidth(10);
        sheet.lines();
        sheet.lyrics(0);
        sheet.lyric(0, 0);
        sheet.chords();
        sheet.nameChar(0, 0);
        sheet.commonTones(0);
        sheet.degree(0);
        sheet.score(0, false);
        sheet.findKey();
        sheet.difficulty(0);
        sheet.bestCapo();
        sheet.pairs(0);
        sheet.rowLength(0, 0, 0);
        sheet.rowChar(0, 0, 0, 0);
        CHECKS.due("only read is kept", 0, sheet.undo());
    }

    private static void whatUndoLeaves() {
        ChordSheet sheet = new ChordSheet();
        sheet.setKey(3, false);
        sheet.setSimple(false);
        sheet.setFlats(true);
        sheet.setWidth(50);
        Checks.typed(sheet, "abc");
        CHECKS.due("undo", 0, sheet.undo());
        CHECKS.due("the text is left", 3, sheet.clearText());
        CHECKS.due("simple is left", false, sheet.setSimple(true));
        CHECKS.due("flats is left", true, sheet.setFlats(false));
        CHECKS.due("the width is left", 50, sheet.setWidth(60));
        CHECKS.due("the key is back", 0, sheet.tonic());
    }

    private static long hash(long... numbers) {
        long sum = 47;
        for (long number : numbers) {
            sum = sum * 31 + number;
        }
        return sum;
    }

    private static void fingerprint() {
        CHECKS.due("a new sheet", hash(1, 0, 0, 0), new ChordSheet().fingerprint());
        CHECKS.due("lyrics", hash(3, 2, 'a', 'b', 0, 1, '~', 0, 0),
                Checks.sheet("ab//~").fingerprint());
        CHECKS.due("chords", hash(2, 1, 'a', 1, 'b', 0, 1, 3, 1, 100, 1, 0, -2, 0, 2, 3, 1),
                Checks.keyed("a[Am]/[Bb/D]b", 3, true).fingerprint());
        CHECKS.due("a flat key", hash(1, 0, -6, 0), Checks.keyed("", -6, false).fingerprint());
        CHECKS.due("a minor key", hash(1, 0, -3, 1), Checks.keyed("", -3, true).fingerprint());
    }

    private static void fingerprintOfEachPart() {
        String[] texts = {"[C]ab", "a[C]b", "[D]ab", "[Cm]ab", "[C/C]ab", "[C]aB", "[C]abb",
            "[C]a/b", "/[C]ab", "[C][C]ab"};
        for (int n = 0; n < texts.length; n++) {
            for (int m = 0; m < n; m++) {
                CHECKS.due(texts[n] + " and " + texts[m] + " differ", false,
                        Checks.keyed(texts[n], 0, false).fingerprint()
                        == Checks.keyed(texts[m], 0, false).fingerprint());
            }
        }
    }
}
