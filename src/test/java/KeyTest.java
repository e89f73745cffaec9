/** Promises 24 to 31: the key, transposing and respelling. */
public final class KeyTest {
    private static final Checks CHECKS = new Checks();
    private static final int MIN = Integer.MIN_VALUE;
    private static final int MAX = Integer.MAX_VALUE;

    public static void main(String[] args) {
        setKey();
        setKeyRefused();
        score();
        scoreKinds();
        findKey();
        findKeyAmongEquals();
        transposeKeys();
        transposeNotes();
        transposeSpelling();
        transposeRefused();
        respell();
        respellAllKeys();
        CHECKS.end("KeyTest");
    }

    private static void setKey() {
        ChordSheet sheet = Checks.sheet("[C]");
        int before = 0;
        for (int signature = -6; signature <= 6; signature++) {
            CHECKS.due("set major " + signature, before, sheet.setKey(signature, false));
            CHECKS.due("tonic", signature, sheet.tonic());
            CHECKS.due("mode", false, sheet.isMinor());
            CHECKS.due("signature", signature, sheet.signature());
            CHECKS.due("set minor " + signature, signature, sheet.setKey(signature + 3, true));
            CHECKS.due("tonic", signature + 3, sheet.tonic());
            CHECKS.due("mode", true, sheet.isMinor());
            CHECKS.due("signature", signature, sheet.signature());
            before = signature;
        }
        CHECKS.due("notes are left", "C", Checks.names(sheet));
        CHECKS.due("set the same key", 6, sheet.setKey(9, true));
        CHECKS.due("that is kept too", 7, sheet.undo());
        CHECKS.due("the key that was found", 0, sheet.findKey());
    }

    private static void setKeyRefused() {
        ChordSheet sheet = Checks.sheet("[Am]");
        for (int place : new int[] {-7, 7, 9, 100, MIN, MAX}) {
            CHECKS.refused("set major " + place, Checks.ARGUMENT, sheet,
                    () -> sheet.setKey(place, false));
            CHECKS.refused("score of major " + place, Checks.ARGUMENT, sheet,
                    () -> sheet.score(place, false));
        }
        for (int place : new int[] {-4, 10, -6, 100, MIN, MIN + 2, MAX}) {
            CHECKS.refused("set minor " + place, Checks.ARGUMENT, sheet,
                    () -> sheet.setKey(place, true));
            CHECKS.refused("score of minor " + place, Checks.ARGUMENT, sheet,
                    () -> sheet.score(place, true));
        }
        CHECKS.due("the history is left", 0, sheet.undo());
    }

    private static void score() {
        ChordSheet sheet = Checks.sheet("[C][F][G7][Am][F#][C]");
        CHECKS.due("score of C", 4 + 2 + 2 + 2 + 0 + 6, sheet.score(0, false));
        CHECKS.due("score of A minor", 2 + 2 + 2 + 4 + 0 + 2, sheet.score(3, true));
        CHECKS.due("score of C minor", 3 + 2 + 2 + 0 + 0 + 5, sheet.score(0, true));
        CHECKS.due("score of G", 2 + 0 + 4 + 2 + 2 + 2, sheet.score(1, false));
        CHECKS.due("score of F#", 6, sheet.score(6, false));
        CHECKS.due("score of Gb", 6, sheet.score(-6, false));
        CHECKS.due("score of D# minor", 4, sheet.score(9, true));
        CHECKS.due("score of Eb minor", 4, sheet.score(-3, true));
        CHECKS.due("the key of the sheet is no part of it", 0, sheet.setKey(6, false));
        CHECKS.due("score of C", 16, sheet.score(0, false));
        CHECKS.due("score without chords", 0, new ChordSheet().score(0, false));
        CHECKS.due("the bass is no part of it", 6, Checks.sheet("[C/F#]").score(0, false));
        CHECKS.due("another spelling", 6, Checks.sheet("[B#]").score(0, false));
    }

    private static void scoreKinds() {
        String[] qualities = {"", "m", "7", "m7", "maj7", "dim", "aug", "sus4", "6", "9"};
        for (int q = 0; q < qualities.length; q++) {
            boolean minor = q == 1 || q == 3 || q == 5;
            ChordSheet sheet = Checks.sheet("[C" + qualities[q] + "][D]");
            CHECKS.due("major score of " + q, minor ? 5 : 6, sheet.score(0, false));
            CHECKS.due("minor score of " + q, minor ? 6 : 5, sheet.score(0, true));
            sheet = Checks.sheet("[D][C" + qualities[q] + "]");
            CHECKS.due("last major score of " + q, minor ? 7 : 8, sheet.score(0, false));
        }
    }

    private static void found(String text, int key) {
        CHECKS.due("the key of " + text, key, Checks.sheet(text).findKey());
        CHECKS.due("the tonic of " + text, key > 50 ? key - 100 : key,
                Checks.sheet(text).tonic());
        CHECKS.due("the mode of " + text, key > 50, Checks.sheet(text).isMinor());
    }

    private static void findKey() {
        found("", 0);
        found("no chords", 0);
        found("[C][F][G7][C]", 0);
        found("[Am][Dm][E7][Am]", 103);
        found("[G][D][Em][C][G]", 1);
        found("[Bb][Eb][F7][Bb]", -2);
        found("[D#m][G#m][A#7][D#m]", 109);
        found("[Cm][Fm][Gm][Cm]", 100);
        found("[Ebm]", 109);
        found("[F#]", 6);
        found("[Gb]", 6);
        found("[Gb/Bb][Cb][Gb]", 6);
        found("[C]a/[F]b", -1);
        found("[B]", 5);
        ChordSheet sheet = Checks.sheet("[C][F][C]");
        sheet.setKey(9, true);
        CHECKS.due("findKey", 0, sheet.findKey());
        CHECKS.due("it does not become the key", "9m", Checks.key(sheet));
        CHECKS.due("it is not kept", 1, sheet.undo());
        Checks.typed(sheet, "Am").setChord(2);
        CHECKS.due("findKey after a change", 103, sheet.findKey());
        sheet.moveChord(2, 0);
        sheet.removeChord(2);
        CHECKS.due("the last chord counts", -1, sheet.findKey());
    }

    private static void findKeyAmongEquals() {
        // C major and A minor have a score of 8 each, B major has 6.
        found("[C][Am][B]", 0);
        String[] roots = {"C", "Db", "D", "D#", "E", "F", "F#", "G", "G#", "A", "Bb", "B"};
        for (int n = 0; n < 24 * 24 * 24; n++) {
            StringBuilder text = new StringBuilder();
            for (int rest = n, k = 0; k < 3; rest /= 24, k++) {
                text.append('[').append(roots[rest % 12]);
                text.append(rest % 24 < 12 ? "" : "m").append(']');
            }
            ChordSheet sheet = Checks.sheet(text.toString());
            CHECKS.due("the key of " + text, bestOfAll(sheet), sheet.findKey());
        }
    }

    /** Ranks all 26 keys by score, mode, size of the signature, and its sign, in this order. */
    private static int bestOfAll(ChordSheet sheet) {
        int best = 0;
        int bestRank = Integer.MIN_VALUE;
        for (int signature = 6; signature >= -6; signature--) {
            for (int mode = 1; mode >= 0; mode--) {
                int place = signature + 3 * mode;
                int rank = sheet.score(place, mode == 1) * 1000 - 100 * mode
                        - 2 * Math.abs(signature) + (signature > 0 ? 1 : 0);
                if (rank > bestRank) {
                    bestRank = rank;
                    best = place + 100 * mode;
                }
            }
        }
        return best;
    }

    private static void transposed(int place, boolean minor, boolean flats, int by, int tonic) {
        ChordSheet sheet = new ChordSheet();
        sheet.setKey(place, minor);
        sheet.setFlats(flats);
        String what = place + (minor ? "m" : "") + (flats ? " with flats by " : " by ") + by;
        int signature = minor ? tonic - 3 : tonic;
        CHECKS.due("transpose " + what, signature, sheet.transpose(by));
        CHECKS.due("signature of " + what, signature, sheet.signature());
        CHECKS.due("tonic of " + what, tonic, sheet.tonic());
        CHECKS.due("mode of " + what, minor, sheet.isMinor());
    }

    private static void transposeKeys() {
        int[] up = {0, -5, 2, -3, 4, -1, 6, 1, -4, 3, -2, 5};
        int[] upInMinor = {3, -2, 5, 0, 7, 2, 9, 4, -1, 6, 1, 8};
        for (int by = 0; by < 12; by++) {
            transposed(0, false, false, by, up[by]);
            transposed(0, false, true, by, by == 6 ? -6 : up[by]);
            transposed(3, true, false, by, upInMinor[by]);
            transposed(3, true, true, by, by == 6 ? -3 : upInMinor[by]);
            if (by > 0) {
                transposed(0, false, false, by - 12, up[by]);
                transposed(3, true, true, by - 12, by == 6 ? -3 : upInMinor[by]);
            }
        }
        transposed(6, false, true, 0, -6);
        transposed(-6, false, false, 0, 6);
        transposed(9, true, true, 0, -3);
        transposed(-3, true, false, 0, 9);
        transposed(6, false, false, 11, -1);
        transposed(-5, false, false, 1, 2);
    }

    private static void transposeNotes() {
        ChordSheet sheet = Checks.sheet("[C]He[Am7/G]l[F#dim]lo/[Bb]x[C]");
        CHECKS.due("transpose by 2", 2, sheet.transpose(2));
        CHECKS.due("its chords", "0:0:D 0:2:Bm7/A 0:3:G#dim 1:0:C 1:1:D", Checks.places(sheet));
        CHECKS.due("transpose by -2", 0, sheet.transpose(-2));
        CHECKS.due("its chords", "0:0:C 0:2:Am7/G 0:3:F#dim 1:0:Bb 1:1:C", Checks.places(sheet));
        CHECKS.due("undo both", 2, sheet.undo());
        CHECKS.due("undo both", 1, sheet.undo());
        CHECKS.due("its chords", "C Am7/G F#dim Bb C", Checks.names(sheet));
        ChordSheet odd = Checks.sheet("[B#][Fb/E#]");
        odd.setKey(0, false);
        CHECKS.due("transpose by 0", 0, odd.transpose(0));
        CHECKS.due("all notes are respelled", "C E/F", Checks.names(odd));
        ChordSheet none = new ChordSheet();
        none.transpose(0);
        CHECKS.due("transpose by 0 is kept", 0, none.undo());
    }

    private static void transposeSpelling() {
        ChordSheet sheet = Checks.sheet("[C][C#][D][D#][E][F][F#][G][G#][A][A#][B]");
        sheet.setKey(0, false);
        sheet.transpose(6);
        CHECKS.due("simple in F#", "F# G G# A A# B B# C# D D# E E#", Checks.names(sheet));
        sheet.undo();
        sheet.setSimple(false);
        sheet.transpose(6);
        CHECKS.due("in F#", "F# F## G# A A# B B# C# C## D# E E#", Checks.names(sheet));
        sheet.undo();
        sheet.setFlats(true);
        sheet.transpose(-6);
        CHECKS.due("in Gb", "Gb G Ab Bbb Bb Cb C Db D Eb Fb F", Checks.names(sheet));
        sheet.undo();
        sheet.setSimple(true);
        sheet.transpose(-6);
        CHECKS.due("simple in Gb", "Gb G Ab A Bb Cb C Db D Eb Fb F", Checks.names(sheet));
    }

    private static void transposeRefused() {
        ChordSheet sheet = Checks.sheet("[C]");
        for (int by : new int[] {-12, 12, 100, MIN, MAX}) {
            CHECKS.refused("transpose by " + by, Checks.ARGUMENT, sheet,
                    () -> sheet.transpose(by));
        }
        CHECKS.due("transpose by 11", 5, sheet.transpose(11));
        CHECKS.due("transpose by -11", 0, sheet.transpose(-11));
        CHECKS.due("the history", 2, sheet.undo());
    }

    private static void respell() {
        ChordSheet sheet = Checks.sheet("[B#][Fb/E#][Db/C][G]");
        sheet.setKey(0, false);
        CHECKS.due("respell", 4, sheet.respell());
        CHECKS.due("the names", "C E/F C#/C G", Checks.names(sheet));
        CHECKS.due("the key is left", "0", Checks.key(sheet));
        CHECKS.due("respell again", 0, sheet.respell());
        CHECKS.due("it is kept all the same", 3, sheet.undo());
        CHECKS.due("undo", 2, sheet.undo());
        CHECKS.due("the names before", "B# Fb/E# Db/C G", Checks.names(sheet));
        CHECKS.due("respell nothing", 0, new ChordSheet().respell());
        ChordSheet sharps = Checks.sheet("[G/D][A]");
        sharps.setKey(6, false);
        CHECKS.due("simple respell", 0, sharps.respell());
        sharps.setSimple(false);
        CHECKS.due("respell with two sharps", 2, sharps.respell());
        CHECKS.due("with two sharps", "F##/C## A", Checks.names(sharps));
        sharps.setSimple(true);
        CHECKS.due("simple again", 2, sharps.respell());
        CHECKS.due("without two sharps", "G/D A", Checks.names(sharps));
    }

    private static void respellAllKeys() {
        for (int signature = -6; signature <= 6; signature++) {
            for (int mode = 0; mode < 2; mode++) {
                ChordSheet sheet = Checks.sheet("[C][C#][D][D#][E][F][F#][G][G#][A][A#][B]");
                sheet.setSimple(false);
                sheet.setKey(signature + 3 * mode, mode == 1);
                sheet.respell();
                for (int i = 0; i < 12; i++) {
                    int place = sheet.rootOf(i);
                    CHECKS.due("pitch " + i + " in " + signature, i, Math.floorMod(7 * place, 12));
                    CHECKS.due("place " + place + " in " + signature, true,
                            place >= signature - 3 && place <= signature + 8);
                }
                sheet.setSimple(true);
                sheet.respell();
                for (int i = 0; i < 12; i++) {
                    int place = sheet.rootOf(i);
                    CHECKS.due("simple pitch " + i, i, Math.floorMod(7 * place, 12));
                    CHECKS.due("simple place " + place, true, place >= -8 && place <= 12);
                }
            }
        }
    }
}
