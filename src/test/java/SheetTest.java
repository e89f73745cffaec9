/** Promises 8 to 23: lyrics and chords. */
public final class SheetTest {
    private static final Checks CHECKS = new Checks();
    private static final int MIN = Integer.MIN_VALUE;
    private static final int MAX = Integer.MAX_VALUE;

    public static void main(String[] args) {
        lyrics();
        places();
        notes();
        names();
        setChord();
        setWrongChords();
        addChord();
        addChordAmongLines();
        addChordRefused();
        removeChord();
        moveChord();
        commonTones();
        commonTonesOfAllChords();
        degree();
        degreesOfAllPitches();
        CHECKS.end("SheetTest");
    }

    private static void lyrics() {
        ChordSheet sheet = Checks.sheet("[C]ab c//~[D]");
        CHECKS.due("lines", 3, sheet.lines());
        CHECKS.due("lyrics of line 0", 4, sheet.lyrics(0));
        CHECKS.due("lyrics of line 1", 0, sheet.lyrics(1));
        CHECKS.due("lyrics of line 2", 1, sheet.lyrics(2));
        CHECKS.due("the first character", 'a', sheet.lyric(0, 0));
        CHECKS.due("a blank", ' ', sheet.lyric(0, 2));
        CHECKS.due("the last character", 'c', sheet.lyric(0, 3));
        CHECKS.due("a character of another line", '~', sheet.lyric(2, 0));
        for (int line : new int[] {-1, 3, MIN, MAX}) {
            CHECKS.refused("lyrics of " + line, Checks.INDEX, sheet, () -> sheet.lyrics(line));
            CHECKS.refused("lyric of " + line, Checks.INDEX, sheet, () -> sheet.lyric(line, 0));
        }
        for (int column : new int[] {-1, 4, MIN, MAX}) {
            CHECKS.refused("lyric at " + column, Checks.INDEX, sheet,
                    () -> sheet.lyric(0, column));
        }
        CHECKS.refused("lyric of an empty line", Checks.INDEX, sheet, () -> sheet.lyric(1, 0));
    }

    private static void places() {
        ChordSheet sheet = Checks.sheet("a[C]b[D][Em]/c[F]");
        CHECKS.due("chords", 4, sheet.chords());
        CHECKS.due("all places", "0:1:C 0:2:D 0:2:Em 1:1:F", Checks.places(sheet));
        CHECKS.due("line of chord 3", 1, sheet.lineOf(3));
        CHECKS.due("column of chord 2", 2, sheet.columnOf(2));
        for (int i : new int[] {-1, 4, 40, MIN, MAX}) {
            CHECKS.refused("lineOf " + i, Checks.INDEX, sheet, () -> sheet.lineOf(i));
            CHECKS.refused("columnOf " + i, Checks.INDEX, sheet, () -> sheet.columnOf(i));
            CHECKS.refused("rootOf " + i, Checks.INDEX, sheet, () -> sheet.rootOf(i));
            CHECKS.refused("qualityOf " + i, Checks.INDEX, sheet, () -> sheet.qualityOf(i));
            CHECKS.refused("bassOf " + i, Checks.INDEX, sheet, () -> sheet.bassOf(i));
            CHECKS.refused("nameChar of " + i, Checks.INDEX, sheet, () -> sheet.nameChar(i, 0));
            CHECKS.refused("removeChord " + i, Checks.INDEX, sheet, () -> sheet.removeChord(i));
            CHECKS.refused("moveChord " + i, Checks.INDEX, sheet, () -> sheet.moveChord(i, 0));
            CHECKS.refused("degree of " + i, Checks.INDEX, sheet, () -> sheet.degree(i));
            CHECKS.refused("setChord " + i, Checks.INDEX, sheet, () -> sheet.setChord(i));
        }
        CHECKS.due("states behind refusals", 0, sheet.undo());
    }

    private static void notes() {
        for (int place = -8; place <= 12; place++) {
            String note = Checks.note(place);
            ChordSheet sheet = Checks.sheet("[" + note + "][C/" + note + "]");
            CHECKS.due("root " + note, place, sheet.rootOf(0));
            CHECKS.due("bass " + note, place, sheet.bassOf(1));
            CHECKS.due("no bass", 100, sheet.bassOf(0));
            CHECKS.due("name of " + note, note, Checks.name(sheet, 0));
            CHECKS.due("name with bass " + note, "C/" + note, Checks.name(sheet, 1));
        }
        String[] qualities = {"", "m", "7", "m7", "maj7", "dim", "aug", "sus4", "6", "9"};
        for (int q = 0; q < qualities.length; q++) {
            String chord = "Bb" + qualities[q];
            CHECKS.due("quality of " + chord, q, Checks.chord(chord).qualityOf(0));
            CHECKS.due("name of " + chord, chord, Checks.name(Checks.chord(chord), 0));
            chord = "E" + qualities[q] + "/G#";
            CHECKS.due("quality of " + chord, q, Checks.chord(chord).qualityOf(0));
            CHECKS.due("name of " + chord, chord, Checks.name(Checks.chord(chord), 0));
        }
    }

    private static void names() {
        ChordSheet sheet = Checks.sheet("[D#m/A#][C]");
        CHECKS.due("first sign", 'D', sheet.nameChar(0, 0));
        CHECKS.due("second sign", '#', sheet.nameChar(0, 1));
        CHECKS.due("last sign", '#', sheet.nameChar(0, 5));
        CHECKS.due("behind the last sign", -1, sheet.nameChar(0, 6));
        CHECKS.due("behind a short name", -1, sheet.nameChar(1, 1));
        CHECKS.due("far behind", -1, sheet.nameChar(1, MAX));
        CHECKS.refused("sign -1", Checks.INDEX, sheet, () -> sheet.nameChar(0, -1));
        CHECKS.refused("sign MIN", Checks.INDEX, sheet, () -> sheet.nameChar(0, MIN));
        ChordSheet sharps = Checks.sheet("[G/D]");
        sharps.setSimple(false);
        sharps.setKey(9, true);
        sharps.respell();
        CHECKS.due("two sharps", "F##/C##", Checks.name(sharps, 0));
        ChordSheet flats = Checks.sheet("[Amaj7/A]");
        flats.setSimple(false);
        flats.setKey(-6, false);
        flats.respell();
        CHECKS.due("two flats", "Bbbmaj7/Bbb", Checks.name(flats, 0));
    }

    private static void setChord() {
        ChordSheet sheet = Checks.sheet("a[C/G]b[D]/[E]");
        Checks.typed(sheet, "F#m7/Bb");
        CHECKS.due("setChord", 0, sheet.setChord(1));
        CHECKS.due("its places", "0:1:C/G 0:2:F#m7/Bb 1:0:E", Checks.places(sheet));
        CHECKS.due("its text", 0, sheet.clearText());
        Checks.typed(sheet, "Asus4");
        CHECKS.due("setChord without a bass", 0, sheet.setChord(0));
        CHECKS.due("its places", "0:1:Asus4 0:2:F#m7/Bb 1:0:E", Checks.places(sheet));
        CHECKS.due("bass that is gone", 100, sheet.bassOf(0));
        CHECKS.due("the key that was read is left", "4m", Checks.key(sheet));
        CHECKS.due("undo it", 2, sheet.undo());
        CHECKS.due("its places", "0:1:C/G 0:2:F#m7/Bb 1:0:E", Checks.places(sheet));
    }

    private static void setWrongChords() {
        String[] texts = {"", "[C]", "C]", "Cx", "c", "Cma", "Cmaj", "C/", "C/x", "C/Ebb", "C##",
            " C", "C ", "Csus", "Cm7m", "C/Em", "C/E/"};
        int[] wrong = {0, 0, 1, 1, 0, 3, 4, 2, 2, 4, 2, 0, 1, 4, 3, 3, 3};
        for (int n = 0; n < texts.length; n++) {
            ChordSheet sheet = Checks.sheet("a[D]b");
            long before = sheet.fingerprint();
            Checks.typed(sheet, texts[n]);
            CHECKS.due("set '" + texts[n] + "'", -1 - wrong[n], sheet.setChord(0));
            CHECKS.due("add '" + texts[n] + "'", -1 - wrong[n], sheet.addChord(0, 0));
            CHECKS.due("the sheet is left", before, sheet.fingerprint());
            CHECKS.due("the text is left", texts[n].length(), sheet.clearText());
            CHECKS.due("the history is left", 0, sheet.undo());
        }
        ChordSheet sheet = Checks.sheet("a");
        Checks.typed(sheet, "Cx");
        CHECKS.refused("no chord and a wrong text", Checks.INDEX, sheet, () -> sheet.setChord(0));
        CHECKS.due("the text is left", 2, sheet.clearText());
    }

    private static int add(ChordSheet sheet, String chord, int line, int column) {
        return Checks.typed(sheet, chord).addChord(line, column);
    }

    private static void addChord() {
        ChordSheet sheet = Checks.sheet("abc");
        CHECKS.due("add the first", 0, add(sheet, "C", 0, 1));
        CHECKS.due("its text", 0, sheet.clearText());
        CHECKS.due("add at the same column", 1, add(sheet, "D", 0, 1));
        CHECKS.due("add before", 0, add(sheet, "E/G", 0, 0));
        CHECKS.due("add at the end", 3, add(sheet, "F", 0, 3));
        CHECKS.due("add between", 3, add(sheet, "G", 0, 2));
        CHECKS.due("add at the same column", 1, add(sheet, "A", 0, 0));
        CHECKS.due("all", "0:0:E/G 0:0:A 0:1:C 0:1:D 0:2:G 0:3:F", Checks.places(sheet));
        CHECKS.due("the key is left", "0", Checks.key(sheet));
        CHECKS.due("undo one", 6, sheet.undo());
        CHECKS.due("the others", "0:0:E/G 0:1:C 0:1:D 0:2:G 0:3:F", Checks.places(sheet));
    }

    private static void addChordAmongLines() {
        ChordSheet sheet = Checks.sheet("[C]ab/cd//ef[D]");
        CHECKS.due("add to a line between", 1, add(sheet, "E", 1, 2));
        CHECKS.due("add before it", 1, add(sheet, "F", 1, 0));
        CHECKS.due("add to an empty line", 3, add(sheet, "G", 2, 0));
        CHECKS.due("add to the last line", 4, add(sheet, "A", 3, 1));
        CHECKS.due("add to the first line", 1, add(sheet, "B", 0, 2));
        CHECKS.due("all", "0:0:C 0:2:B 1:0:F 1:2:E 2:0:G 3:1:A 3:2:D", Checks.places(sheet));
    }

    private static void addChordRefused() {
        ChordSheet sheet = Checks.sheet("ab/c");
        Checks.typed(sheet, "C");
        for (int line : new int[] {-1, 2, MIN, MAX}) {
            CHECKS.refused("add to " + line, Checks.INDEX, sheet, () -> sheet.addChord(line, 0));
        }
        for (int column : new int[] {-1, 2, MIN, MAX}) {
            CHECKS.refused("add at " + column, Checks.INDEX, sheet,
                    () -> sheet.addChord(1, column));
        }
        CHECKS.due("the text is left", 1, sheet.clearText());
        ChordSheet full = Checks.sheet(Checks.repeated("[C]", 39) + "a");
        CHECKS.due("add the fortieth", 39, add(full, "D", 0, 1));
        Checks.typed(full, "E");
        CHECKS.refused("add one more", Checks.STATE, full, () -> full.addChord(0, 0));
        CHECKS.refused("no line comes first", Checks.INDEX, full, () -> full.addChord(1, 0));
        CHECKS.refused("no column comes first", Checks.INDEX, full, () -> full.addChord(0, 2));
        Checks.typed(full, "x");
        CHECKS.refused("a wrong text comes last", Checks.STATE, full, () -> full.addChord(0, 0));
        CHECKS.due("the text is left", 2, full.clearText());
        CHECKS.due("the history is left", 1, full.undo());
    }

    private static void removeChord() {
        ChordSheet sheet = Checks.sheet("[C]a[D/F#]b[E]/[F]c");
        CHECKS.due("remove one between", 3, sheet.removeChord(1));
        CHECKS.due("the others", "0:0:C 0:2:E 1:0:F", Checks.places(sheet));
        CHECKS.due("remove the last", 2, sheet.removeChord(2));
        CHECKS.due("remove the first", 1, sheet.removeChord(0));
        CHECKS.due("the other", "0:2:E", Checks.places(sheet));
        CHECKS.due("remove it", 0, sheet.removeChord(0));
        CHECKS.refused("remove none", Checks.INDEX, sheet, () -> sheet.removeChord(0));
        CHECKS.due("lines are left", 2, sheet.lines());
        CHECKS.due("lyrics are left", 2, sheet.lyrics(0));
        CHECKS.due("undo", 4, sheet.undo());
        CHECKS.due("undo", 3, sheet.undo());
        CHECKS.due("undo", 2, sheet.undo());
        CHECKS.due("undo", 1, sheet.undo());
        CHECKS.due("all again", "0:0:C 0:1:D/F# 0:2:E 1:0:F", Checks.places(sheet));
        ChordSheet full = Checks.sheet(Checks.repeated("[C]", 39) + "[D]");
        CHECKS.due("remove of forty", 39, full.removeChord(0));
        CHECKS.due("the last of forty", "D", Checks.name(full, 38));
        CHECKS.due("remove among many", 38, full.removeChord(20));
        CHECKS.due("the last of many", "D", Checks.name(full, 37));
        CHECKS.due("the one before it", "C", Checks.name(full, 36));
    }

    private static void moveChord() {
        ChordSheet sheet = Checks.sheet("[B]x/[C]a[D]b[Em7/G]c/[F]");
        CHECKS.due("move to the right", 3, sheet.moveChord(1, 3));
        CHECKS.due("all", "0:0:B 1:1:D 1:2:Em7/G 1:3:C 2:0:F", Checks.places(sheet));
        CHECKS.due("move to the left", 1, sheet.moveChord(2, 0));
        CHECKS.due("all", "0:0:B 1:0:Em7/G 1:1:D 1:3:C 2:0:F", Checks.places(sheet));
        CHECKS.due("move behind one at the column", 2, sheet.moveChord(1, 1));
        CHECKS.due("all", "0:0:B 1:1:D 1:1:Em7/G 1:3:C 2:0:F", Checks.places(sheet));
        CHECKS.due("move to its own column", 2, sheet.moveChord(1, 1));
        CHECKS.due("all", "0:0:B 1:1:Em7/G 1:1:D 1:3:C 2:0:F", Checks.places(sheet));
        CHECKS.due("move without passing one", 2, sheet.moveChord(2, 2));
        CHECKS.due("move the only one", 4, sheet.moveChord(4, 0));
        CHECKS.due("move the first", 0, sheet.moveChord(0, 1));
        CHECKS.due("all", "0:1:B 1:1:Em7/G 1:2:D 1:3:C 2:0:F", Checks.places(sheet));
        for (int column : new int[] {-1, 4, MIN, MAX}) {
            CHECKS.refused("move to " + column, Checks.INDEX, sheet,
                    () -> sheet.moveChord(1, column));
        }
        CHECKS.refused("move in an empty line", Checks.INDEX, sheet, () -> sheet.moveChord(4, 1));
        CHECKS.due("every move is kept", 7, sheet.undo());
    }

    private static void common(String first, String second, int tones) {
        ChordSheet sheet = Checks.sheet("[" + first + "]/[" + second + "]");
        CHECKS.due("common tones of " + first + " " + second, tones, sheet.commonTones(0));
    }

    private static void commonTones() {
        common("C", "C", 3);
        common("C", "Am", 2);
        common("C", "Am7/G", 3);
        common("C", "F#", 0);
        common("C", "Cm", 2);
        common("C7", "Gm", 2);
        common("C7", "Edim", 3);
        common("Cm7", "Eb6", 4);
        common("Cmaj7", "Em", 3);
        common("Cdim", "F#dim", 2);
        common("Caug", "G#aug", 3);
        common("Csus4", "F", 2);
        common("C6", "Am7", 4);
        common("C9", "Gm7", 3);
        common("C9", "C9", 5);
        common("C9", "D", 1);
        common("C/F#", "D7", 2);
        common("C/D", "D", 1);
        common("C/E", "C/E", 3);
        common("B#", "C", 3);
        common("B", "Cb", 3);
        common("Fb", "E7/D#", 3);
        ChordSheet sheet = Checks.sheet("[C]/[C]/[D]");
        CHECKS.due("common tones of the first", 3, sheet.commonTones(0));
        CHECKS.due("common tones of the second", 0, sheet.commonTones(1));
        for (int i : new int[] {-1, 2, 3, MIN, MAX}) {
            CHECKS.refused("common tones of " + i, Checks.INDEX, sheet,
                    () -> sheet.commonTones(i));
        }
        ChordSheet none = new ChordSheet();
        CHECKS.refused("common tones of none", Checks.INDEX, none, () -> none.commonTones(0));
        CHECKS.refused("common tones of -1", Checks.INDEX, none, () -> none.commonTones(-1));
    }

    private static void commonTonesOfAllChords() {
        String[] qualities = {"", "m", "7", "m7", "maj7", "dim", "aug", "sus4", "6", "9"};
        String[] tones = {"0 4 7", "0 3 7", "0 4 7 10", "0 3 7 10", "0 4 7 11", "0 3 6", "0 4 8",
            "0 5 7", "0 4 7 9", "0 2 4 7 10"};
        String[] roots = {"C", "C#", "D", "Eb", "E", "F", "Gb", "G", "Ab", "A", "A#", "B"};
        for (int first = 0; first < 120; first++) {
            for (int second = 0; second < 120; second++) {
                int due = 0;
                for (String tone : tones[first / 12].split(" ")) {
                    int sought = Integer.parseInt(tone) + first % 12;
                    for (String other : tones[second / 12].split(" ")) {
                        int found = Integer.parseInt(other) + second % 12;
                        due += (sought - found) % 12 == 0 ? 1 : 0;
                    }
                }
                common(roots[first % 12] + qualities[first / 12],
                        roots[second % 12] + qualities[second / 12], due);
            }
        }
    }

    private static void degree() {
        ChordSheet sheet = Checks.sheet("[C][Dm][Em][F][G][Am][Bdim][F#][B#][Fb]");
        int[] inMajor = {1, 2, 3, 4, 5, 6, 7, 0, 1, 3};
        int[] inMinor = {3, 4, 5, 6, 7, 1, 2, 0, 3, 5};
        sheet.setKey(0, false);
        for (int i = 0; i < inMajor.length; i++) {
            CHECKS.due("degree " + i + " in C", inMajor[i], sheet.degree(i));
        }
        sheet.setKey(3, true);
        for (int i = 0; i < inMinor.length; i++) {
            CHECKS.due("degree " + i + " in A minor", inMinor[i], sheet.degree(i));
        }
    }

    private static void degreesOfAllPitches() {
        int[] major = {1, 0, 2, 0, 3, 4, 0, 5, 0, 6, 0, 7};
        int[] minor = {1, 0, 2, 3, 0, 4, 0, 5, 6, 0, 7, 0};
        ChordSheet sheet = Checks.sheet("[C][C#][D][D#][E][F][F#][G][G#][A][A#][B]");
        for (int signature = -6; signature <= 6; signature++) {
            sheet.setKey(signature, false);
            int tonic = Math.floorMod(7 * signature, 12);
            for (int i = 0; i < 12; i++) {
                CHECKS.due("degree in major " + signature, major[Math.floorMod(i - tonic, 12)],
                        sheet.degree(i));
            }
            sheet.setKey(signature + 3, true);
            tonic = Math.floorMod(7 * (signature + 3), 12);
            for (int i = 0; i < 12; i++) {
                CHECKS.due("degree in minor " + signature, minor[Math.floorMod(i - tonic, 12)],
                        sheet.degree(i));
            }
        }
    }
}
