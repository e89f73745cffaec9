import java.util.function.Supplier;

/** The edges of lyrics and chords: a test for each sentence of the document, promises 8 to 23. */
public final class SheetEdgesTest {
    private static final Checks CHECKS = new Checks();
    private static final String NO_INDEX = "throws.IndexOutOfBoundsException";
    private static final int MIN = Integer.MIN_VALUE;
    private static final int MAX = Integer.MAX_VALUE;
    private static final String[] WRONG_CHORDS =
        {"", "x", "[C]", "C]", "Cx", "Cma", "C/", "C/x", "C##", "Cm7b", "C/Ebb", "C "};
    private static final String[] WRONG_ANSWERS =
        {"-1", "-1", "-1", "-2", "-2", "-4", "-3", "-3", "-3", "-4", "-5", "-2"};

    public static void main(String[] args) {
        CHECKS.sentence("chords, numbered from 0 in their order, each with its line and its column",
                SheetEdgesTest::linesAndColumns);
        CHECKS.sentence("Initially the sheet has one line without lyrics and chords.",
                SheetEdgesTest::initially);
        CHECKS.sentence("Two chords can have the same column.", SheetEdgesTest::sameColumn);
        reading();
        setting();
        adding();
        removingAndMoving();
        tones();
        CHECKS.end("SheetEdgesTest");
    }

    private static void reading() {
        CHECKS.sentence("lines: Returns the number of lines.", SheetEdgesTest::numberOfLines);
        CHECKS.sentence("lyrics: Returns the number of characters.",
                SheetEdgesTest::numberOfLyrics);
        CHECKS.sentence("lyrics: Throws IndexOutOfBoundsException if there is no such line",
                SheetEdgesTest::lyricsOfNoLine);
        CHECKS.sentence("lyric: Returns its code.", SheetEdgesTest::firstAndLastLyric);
        CHECKS.sentence("lyric: Throws IndexOutOfBoundsException if there is no such line or"
                + " column", SheetEdgesTest::noLyric);
        CHECKS.sentence("chords: Returns the number of chords.", SheetEdgesTest::numberOfChords);
        noChord("lineOf", ChordSheet::lineOf);
        noChord("columnOf", ChordSheet::columnOf);
        noChord("rootOf", ChordSheet::rootOf);
        noChord("qualityOf", ChordSheet::qualityOf);
        noChord("bassOf", ChordSheet::bassOf);
        noChord("degree", ChordSheet::degree);
        CHECKS.sentence("rootOf: Returns the place of its root on the line of fifths.",
                SheetEdgesTest::outermostRoots);
        CHECKS.sentence("qualityOf: Returns its quality, 0 to 9.",
                SheetEdgesTest::outermostQualities);
        CHECKS.sentence("bassOf: Returns the place of its bass on the line of fifths; 100 if it"
                + " has none.", SheetEdgesTest::outermostBasses);
        CHECKS.sentence("nameChar: Returns its code; -1 if there are not so many characters.",
                SheetEdgesTest::endsOfNames);
        noChord("nameChar", (sheet, i) -> sheet.nameChar(i, 0));
        CHECKS.sentence("nameChar: Throws IndexOutOfBoundsException if .. k is negative",
                SheetEdgesTest::negativeNameChar);
    }

    private static void setting() {
        CHECKS.sentence("setChord: which replaces the root, quality and bass of a chord",
                SheetEdgesTest::setEachPart);
        CHECKS.sentence("setChord: The text is empty then.", SheetEdgesTest::setEmpties);
        CHECKS.sentence("setChord: Returns 0; -1 minus the index of the first wrong character (or"
                + " the length of the text) if the text is wrong.", SheetEdgesTest::setAnswers);
        CHECKS.sentence("setChord: If the text is wrong, nothing is changed.",
                SheetEdgesTest::setWrong);
        noChord("setChord", ChordSheet::setChord);
    }

    private static void adding() {
        CHECKS.sentence("addChord: It comes behind all chords of the line with the same or a"
                + " smaller column.", SheetEdgesTest::addBehind);
        CHECKS.sentence("addChord: column: 0 to the number of characters of the line",
                SheetEdgesTest::addAtEnds);
        CHECKS.sentence("addChord: The text is empty then.", SheetEdgesTest::addEmpties);
        CHECKS.sentence("addChord: Returns the number of the chord", SheetEdgesTest::addAnswers);
        CHECKS.sentence("addChord: -1 minus the index of the first wrong character (or the length"
                + " of the text) if the text is wrong", SheetEdgesTest::addWrongAnswers);
        CHECKS.sentence("addChord: If the text is wrong, nothing is changed.",
                SheetEdgesTest::addWrong);
        CHECKS.sentence("addChord: Throws IndexOutOfBoundsException if there is no such line or"
                + " column", SheetEdgesTest::addNowhere);
        CHECKS.sentence("addChord: Throws IllegalStateException if there are 40 chords already",
                SheetEdgesTest::addTo40);
    }

    private static void removingAndMoving() {
        CHECKS.sentence("removeChord: Removes a chord.", SheetEdgesTest::removeAtEnds);
        CHECKS.sentence("removeChord: Returns the number of chords then.",
                SheetEdgesTest::removeAnswers);
        noChord("removeChord", ChordSheet::removeChord);
        CHECKS.sentence("moveChord: It comes behind all other chords of the line with the same or"
                + " a smaller column.", SheetEdgesTest::moveBehind);
        CHECKS.sentence("moveChord: column: 0 to the number of characters of the line",
                SheetEdgesTest::moveToEnds);
        CHECKS.sentence("moveChord: Returns the number of the chord then.",
                SheetEdgesTest::moveAnswers);
        noChord("moveChord", (sheet, i) -> sheet.moveChord(i, 0));
        CHECKS.sentence("moveChord: Throws IndexOutOfBoundsException if there is no such .. column",
                SheetEdgesTest::moveNowhere);
    }

    private static void tones() {
        CHECKS.sentence("A chord consists of the pitch classes of its root plus, modulo 12",
                SheetEdgesTest::tonesWrapAround);
        CHECKS.sentence("and of the pitch class of its bass, if it has one",
                SheetEdgesTest::tonesOfBasses);
        CHECKS.sentence("commonTones: Returns the number of pitch classes.",
                SheetEdgesTest::fewestAndMostTones);
        CHECKS.sentence("commonTones: Throws IndexOutOfBoundsException if there is no chord i or"
                + " i + 1", SheetEdgesTest::noNextChord);
        CHECKS.sentence("degree: Returns 1 to 7 if its root has the pitch class of the first to"
                + " seventh note of the scale, counted upward from the tonic",
                SheetEdgesTest::firstAndLastDegree);
        CHECKS.sentence("degree: 0 if it has none of them", SheetEdgesTest::noDegree);
    }

    private interface ChordUse {
        long of(ChordSheet sheet, int i);
    }

    /** The sentence of the methods that are given a chord which is not there. */
    private static void noChord(String name, ChordUse use) {
        CHECKS.sentence(name + ": Throws IndexOutOfBoundsException if there is no such chord",
                () -> {
                    noChordOf(name + " of none", use, ChordSheet::new, 0);
                    noChordOf(name + " of two", use, () -> Checks.sheet("[C]a/[D]"), 2);
                    noChordOf(name + " of 40", use,
                            () -> Checks.sheet(Checks.repeated("[C]", 40)), 40);
                    noChordOf(name + " where two were", use, SheetEdgesTest::withoutChords, 0);
                    noChordOf(name + " where more were", use, Checks::shorter, 1);
                });
    }

    private static ChordSheet withoutChords() {
        ChordSheet sheet = Checks.sheet("[C]a[D]");
        sheet.removeChord(0);
        sheet.removeChord(0);
        return sheet;
    }

    private static void noChordOf(String what, ChordUse use, Supplier<ChordSheet> maker,
            int count) {
        Supplier<ChordSheet> typed = () -> Checks.typed(maker.get(), "F#m/A");
        for (int i : new int[] {MIN, -1, count, count + 1, 41, MAX}) {
            CHECKS.changesNothing(what + ", chord " + i, NO_INDEX, typed,
                    sheet -> use.of(sheet, i));
        }
        for (int i : new int[] {0, count - 1}) {
            if (i < count && i >= 0) {
                String got = Checks.answer(() -> use.of(typed.get(), i));
                CHECKS.due(what + ", chord " + i, false, got.startsWith("throws."));
            }
        }
    }

    private static void places(ChordSheet sheet, String due) {
        CHECKS.due("the chords", due, Checks.places(sheet));
    }

    private static void linesAndColumns() {
        places(Checks.sheet("[C]ab[D]/c[E]//[F][G]"),
                "0:0:C 0:2:D 1:1:E 3:0:F 3:0:G");
        places(Checks.sheet("///[C]"), "3:0:C");
        places(Checks.sheet("a [C/G] [D/F#] b"), "0:2:C/G 0:3:D/F#");
        places(Checks.sheet("abc/[C]"), "1:0:C");
    }

    private static void initially() {
        ChordSheet sheet = new ChordSheet();
        CHECKS.due("lines", 1, sheet.lines());
        CHECKS.due("lyrics", 0, sheet.lyrics(0));
        CHECKS.due("chords", 0, sheet.chords());
    }

    private static void sameColumn() {
        places(Checks.sheet("a[C][D][C]b"), "0:1:C 0:1:D 0:1:C");
        ChordSheet sheet = Checks.sheet(Checks.repeated("[C]", 39) + "[D]");
        for (int i = 0; i < 40; i++) {
            CHECKS.due("column of " + i, 0, sheet.columnOf(i));
        }
        CHECKS.due("the last of them", "D", Checks.name(sheet, 39));
    }

    private static void numberOfLines() {
        CHECKS.due("of none", 1, new ChordSheet().lines());
        CHECKS.due("of one", 1, Checks.sheet("a").lines());
        CHECKS.due("of two empty ones", 2, Checks.sheet("/").lines());
        CHECKS.due("of as many as can be", 201, Checks.sheet(Checks.repeated("/", 200)).lines());
        CHECKS.due("of one with a bass", 1, Checks.sheet("[C/G]").lines());
    }

    private static void numberOfLyrics() {
        ChordSheet sheet = Checks.sheet("[C]/ab[D]c/[E/G] ");
        CHECKS.due("of an empty line", 0, sheet.lyrics(0));
        CHECKS.due("of a line", 3, sheet.lyrics(1));
        CHECKS.due("of a blank", 1, sheet.lyrics(2));
        CHECKS.due("of as many as can be", 200,
                Checks.sheet(Checks.repeated("x", 200)).lyrics(0));
        CHECKS.due("of the last of 201 lines", 0,
                Checks.sheet(Checks.repeated("/", 200)).lyrics(200));
        CHECKS.due("of a last line with one", 1,
                Checks.sheet(Checks.repeated("/", 199) + "x").lyrics(199));
    }

    private static void lyricsOfNoLine() {
        for (String text : new String[] {"", "abc", "a/b", "/", Checks.repeated("/", 200)}) {
            int lines = Checks.sheet(text).lines();
            for (int line : new int[] {MIN, -1, lines, lines + 1, 201, 202, MAX}) {
                CHECKS.changesNothing("lyrics of " + line + " of " + lines, NO_INDEX,
                        () -> Checks.sheet(text), sheet -> sheet.lyrics(line));
            }
            String last = Checks.answer(() -> Checks.sheet(text).lyrics(lines - 1));
            CHECKS.due("lyrics of the last line", false, last.startsWith("throws."));
        }
        for (int line : new int[] {1, 2, 3, 4, 5}) {
            CHECKS.changesNothing("lyrics of line " + line + " which was", NO_INDEX,
                    Checks::shorter, sheet -> sheet.lyrics(line));
        }
    }

    private static void firstAndLastLyric() {
        ChordSheet sheet = Checks.sheet("[C] b[D]~/z");
        CHECKS.due("the first", ' ', sheet.lyric(0, 0));
        CHECKS.due("the last", '~', sheet.lyric(0, 2));
        CHECKS.due("the only one", 'z', sheet.lyric(1, 0));
        ChordSheet full = Checks.sheet("a" + Checks.repeated("x", 198) + "z");
        CHECKS.due("the first of 200", 'a', full.lyric(0, 0));
        CHECKS.due("the last of 200", 'z', full.lyric(0, 199));
    }

    private static void noLyric() {
        ChordSheet sheet = Checks.sheet("abc//de");
        int[] lengths = {3, 0, 2};
        for (int line = 0; line < lengths.length; line++) {
            for (int k : new int[] {MIN, -1, lengths[line], lengths[line] + 1, 200, MAX}) {
                int of = line;
                CHECKS.due("lyric " + line + " " + k, NO_INDEX,
                        Checks.answer(() -> sheet.lyric(of, k)));
            }
        }
        for (int line : new int[] {MIN, -1, 3, 4, MAX}) {
            for (int k : new int[] {-1, 0, MAX}) {
                CHECKS.due("lyric " + line + " " + k, NO_INDEX,
                        Checks.answer(() -> sheet.lyric(line, k)));
            }
        }
        for (int line : new int[] {1, 2, 3, 4, 5}) {
            CHECKS.due("lyric of line " + line + " which was", NO_INDEX,
                    Checks.answer(() -> Checks.shorter().lyric(line, 0)));
        }
        CHECKS.due("lyric of a full line", NO_INDEX, Checks.answer(
                () -> Checks.sheet(Checks.repeated("x", 200)).lyric(0, 200)));
        CHECKS.due("lyric of a new sheet", NO_INDEX,
                Checks.answer(() -> new ChordSheet().lyric(0, 0)));
    }

    private static void numberOfChords() {
        CHECKS.due("of none", 0, new ChordSheet().chords());
        CHECKS.due("of one", 1, Checks.sheet("[C]").chords());
        CHECKS.due("of 40", 40, Checks.sheet(Checks.repeated("[C]", 40)).chords());
        CHECKS.due("of those that are removed", 0, withoutChords().chords());
    }

    private static void outermostRoots() {
        CHECKS.due("the flattest of a text", -8, Checks.chord("Fb").rootOf(0));
        CHECKS.due("the sharpest of a text", 12, Checks.chord("B#").rootOf(0));
        CHECKS.due("the flattest letter", -1, Checks.chord("F").rootOf(0));
        CHECKS.due("the sharpest letter", 5, Checks.chord("B").rootOf(0));
        CHECKS.due("the flattest of all", -9, Checks.respelled("[A]", -6, false).rootOf(0));
        CHECKS.due("the sharpest of all", 14, Checks.respelled("[D]", 9, true).rootOf(0));
    }

    private static void outermostQualities() {
        CHECKS.due("the first", 0, Checks.chord("C").qualityOf(0));
        CHECKS.due("the first with a bass", 0, Checks.chord("C/E").qualityOf(0));
        CHECKS.due("the last", 9, Checks.chord("C9").qualityOf(0));
        CHECKS.due("the last with a bass", 9, Checks.chord("Cb9/E").qualityOf(0));
    }

    private static void outermostBasses() {
        CHECKS.due("none", 100, Checks.chord("Cm7").bassOf(0));
        CHECKS.due("the root", 0, Checks.chord("C/C").bassOf(0));
        CHECKS.due("the flattest of a text", -8, Checks.chord("C/Fb").bassOf(0));
        CHECKS.due("the sharpest of a text", 12, Checks.chord("C/B#").bassOf(0));
        CHECKS.due("the flattest of all", -9, Checks.respelled("[A/A]", -6, false).bassOf(0));
        CHECKS.due("the sharpest of all", 14, Checks.respelled("[D/D]", 9, true).bassOf(0));
        ChordSheet sheet = Checks.sheet("[C/G]");
        Checks.typed(sheet, "C").setChord(0);
        CHECKS.due("none where one was", 100, sheet.bassOf(0));
        sheet.transpose(1);
        CHECKS.due("none behind transpose", 100, sheet.bassOf(0));
        sheet.respell();
        CHECKS.due("none behind respell", 100, sheet.bassOf(0));
    }

    private static void endsOfNames() {
        ChordSheet sheet = Checks.respelled("[Gmaj7/D][F]", 9, true);
        String longest = "F##maj7/C##";
        for (int k = 0; k < longest.length(); k++) {
            CHECKS.due("sign " + k + " of the longest", longest.charAt(k), sheet.nameChar(0, k));
        }
        CHECKS.due("behind the longest", -1, sheet.nameChar(0, 11));
        ChordSheet shortest = Checks.sheet("[F]");
        CHECKS.due("the shortest", 'F', shortest.nameChar(0, 0));
        for (int k : new int[] {1, 2, 200, 1000, MAX}) {
            CHECKS.due("sign " + k + " of the shortest", -1, shortest.nameChar(0, k));
        }
        ChordSheet both = Checks.sheet("[Gmaj7][F]");
        CHECKS.due("the end of a long name", '7', both.nameChar(0, 4));
        CHECKS.due("a short name behind it", 'F', both.nameChar(1, 0));
        CHECKS.due("nothing is left of the long one", -1, both.nameChar(1, 1));
    }

    private static void negativeNameChar() {
        for (int k : new int[] {-1, -2, MIN}) {
            CHECKS.changesNothing("nameChar " + k, NO_INDEX, () -> Checks.sheet("[C]a"),
                    sheet -> sheet.nameChar(0, k));
        }
        CHECKS.due("nameChar 0", 'C', Checks.sheet("[C]a").nameChar(0, 0));
    }

    private static ChordSheet set(ChordSheet sheet, int i, String chord) {
        CHECKS.due("set " + chord, 0, Checks.typed(sheet, chord).setChord(i));
        return sheet;
    }

    private static void setEachPart() {
        places(set(Checks.sheet("a[Cm/G][D]b"), 0, "A"), "0:1:A 0:1:D");
        places(set(Checks.sheet("a[Cm/G][D]b"), 0, "Bb9/F#"), "0:1:Bb9/F# 0:1:D");
        places(set(Checks.sheet("a[Cm/G][D]b"), 1, "Esus4/B"), "0:1:Cm/G 0:1:Esus4/B");
        places(set(Checks.sheet("a[Cm/G]/[D]b"), 1, "D"), "0:1:Cm/G 1:0:D");
        ChordSheet full = Checks.sheet(Checks.repeated("[C]", 40));
        CHECKS.due("the last of 40", "Am", Checks.name(set(full, 39, "Am"), 39));
        CHECKS.due("the one before it", "C", Checks.name(full, 38));
        CHECKS.due("the key is left", "0", Checks.key(full));
    }

    private static void setEmpties() {
        ChordSheet sheet = set(Checks.sheet("[C]"), 0, "Dm");
        CHECKS.due("the length of the text", 0, sheet.clearText());
        set(sheet, 0, "Em");
        CHECKS.due("the first character", 1, sheet.type('F'));
    }

    private static void setAnswers() {
        for (int n = 0; n < WRONG_CHORDS.length; n++) {
            ChordSheet sheet = Checks.typed(Checks.sheet("[D]a"), WRONG_CHORDS[n]);
            CHECKS.due("set '" + WRONG_CHORDS[n] + "'", WRONG_ANSWERS[n],
                    Checks.answer(() -> sheet.setChord(0)));
        }
        String full = "Cmaj7/G#" + Checks.repeated("x", 192);
        CHECKS.due("set a full text", -9, Checks.typed(Checks.sheet("[D]"), full).setChord(0));
        CHECKS.due("set the longest chord", 0,
                Checks.typed(Checks.sheet("[D]"), "Cbmaj7/G#").setChord(0));
        CHECKS.due("set the shortest chord", 0,
                Checks.typed(Checks.sheet("[D]"), "C").setChord(0));
    }

    private static void setWrong() {
        for (int n = 0; n < WRONG_CHORDS.length; n++) {
            String text = WRONG_CHORDS[n];
            CHECKS.changesNothing("set '" + text + "'", WRONG_ANSWERS[n],
                    () -> Checks.typed(Checks.keyed("[Dm/A]a[E]", 3, false), text),
                    sheet -> sheet.setChord(0));
        }
    }

    private static ChordSheet add(ChordSheet sheet, int line, int column, String chord) {
        Checks.typed(sheet, chord).addChord(line, column);
        return sheet;
    }

    private static void addBehind() {
        places(add(Checks.sheet("[C]a[D][E]b[F]"), 0, 1, "G"), "0:0:C 0:1:D 0:1:E 0:1:G 0:2:F");
        places(add(Checks.sheet("[C]a[D][E]b[F]"), 0, 0, "G"), "0:0:C 0:0:G 0:1:D 0:1:E 0:2:F");
        places(add(Checks.sheet("[C]a[D][E]b[F]"), 0, 2, "G"), "0:0:C 0:1:D 0:1:E 0:2:F 0:2:G");
        places(add(Checks.sheet("a[D]b"), 0, 0, "G"), "0:0:G 0:1:D");
        places(add(Checks.sheet("a[D]b"), 0, 2, "G"), "0:1:D 0:2:G");
        places(add(Checks.sheet("ab[C]/ab/a[D]b"), 1, 1, "G"), "0:2:C 1:1:G 2:1:D");
        places(add(Checks.sheet("ab[C]/ab/[D]ab"), 0, 0, "G"), "0:0:G 0:2:C 2:0:D");
        places(add(Checks.sheet("ab[C]/ab/[D]ab"), 2, 0, "G"), "0:2:C 2:0:D 2:0:G");
    }

    private static void addAtEnds() {
        places(add(Checks.sheet("abc"), 0, 0, "G"), "0:0:G");
        places(add(Checks.sheet("abc"), 0, 3, "G"), "0:3:G");
        places(add(Checks.sheet(""), 0, 0, "G"), "0:0:G");
        places(add(Checks.sheet("a//b"), 1, 0, "G"), "1:0:G");
        places(add(Checks.sheet(Checks.repeated("x", 200)), 0, 200, "G"), "0:200:G");
        places(add(Checks.sheet(Checks.repeated("/", 200)), 200, 0, "G"), "200:0:G");
        for (int column : new int[] {-1, 4}) {
            CHECKS.due("add at " + column, NO_INDEX, Checks.answer(
                    () -> Checks.typed(Checks.sheet("abc"), "G").addChord(0, column)));
        }
    }

    private static void addEmpties() {
        ChordSheet sheet = add(Checks.sheet("a"), 0, 0, "Dm");
        CHECKS.due("the length of the text", 0, sheet.clearText());
        add(sheet, 0, 0, "Em");
        CHECKS.due("the first character", 1, sheet.type('F'));
    }

    private static void addAnswers() {
        ChordSheet sheet = Checks.sheet("ab/c");
        CHECKS.due("add the first", 0, Checks.typed(sheet, "C").addChord(1, 1));
        CHECKS.due("add before it", 0, Checks.typed(sheet, "D").addChord(0, 2));
        CHECKS.due("add between", 1, Checks.typed(sheet, "E").addChord(0, 2));
        CHECKS.due("add at the end", 3, Checks.typed(sheet, "F").addChord(1, 1));
        CHECKS.due("add in front", 0, Checks.typed(sheet, "G").addChord(0, 0));
        ChordSheet nearly = Checks.sheet(Checks.repeated("[C]", 39));
        CHECKS.due("add the 40th", 39, Checks.typed(nearly, "C").addChord(0, 0));
    }

    private static void addWrongAnswers() {
        for (int n = 0; n < WRONG_CHORDS.length; n++) {
            ChordSheet sheet = Checks.typed(Checks.sheet("[D]a"), WRONG_CHORDS[n]);
            CHECKS.due("add '" + WRONG_CHORDS[n] + "'", WRONG_ANSWERS[n],
                    Checks.answer(() -> sheet.addChord(0, 1)));
        }
        String full = "Cmaj7/G#" + Checks.repeated("x", 192);
        CHECKS.due("add a full text", -9, Checks.typed(new ChordSheet(), full).addChord(0, 0));
    }

    private static void addWrong() {
        for (int n = 0; n < WRONG_CHORDS.length; n++) {
            String text = WRONG_CHORDS[n];
            CHECKS.changesNothing("add '" + text + "'", WRONG_ANSWERS[n],
                    () -> Checks.typed(Checks.keyed("[Dm/A]a[E]", 3, false), text),
                    sheet -> sheet.addChord(0, 1));
        }
    }

    private static void addNowhere() {
        for (int line : new int[] {MIN, -1, 3, 4, MAX}) {
            CHECKS.changesNothing("add to line " + line, NO_INDEX,
                    () -> Checks.typed(Checks.sheet("[C]ab//c"), "D"),
                    sheet -> sheet.addChord(line, 0));
        }
        for (int line : new int[] {1, 2, 3, 4, 5}) {
            CHECKS.changesNothing("add to line " + line + " which was", NO_INDEX,
                    () -> Checks.typed(Checks.shorter(), "D"), sheet -> sheet.addChord(line, 0));
        }
        int[] lengths = {2, 0, 1};
        for (int line = 0; line < lengths.length; line++) {
            int to = line;
            for (int column : new int[] {MIN, -1, lengths[line] + 1, 200, MAX}) {
                CHECKS.changesNothing("add to line " + line + " at " + column, NO_INDEX,
                        () -> Checks.typed(Checks.sheet("[C]ab//c"), "D"),
                        sheet -> sheet.addChord(to, column));
            }
        }
    }

    private static void addTo40() {
        CHECKS.changesNothing("add the 41st", "throws.IllegalStateException",
                () -> Checks.typed(Checks.sheet(Checks.repeated("[C]", 39) + "a[D]"), "Em"),
                sheet -> sheet.addChord(0, 0));
        ChordSheet sheet = Checks.sheet(Checks.repeated("[C]", 39) + "a");
        add(sheet, 0, 1, "D");
        CHECKS.due("the 40th", "D", Checks.name(sheet, 39));
        Checks.typed(sheet, "E");
        CHECKS.due("add the 41st", "throws.IllegalStateException",
                Checks.answer(() -> sheet.addChord(0, 1)));
        sheet.removeChord(0);
        CHECKS.due("add when one is gone", 39, sheet.addChord(0, 1));
    }

    private static ChordSheet removed(String text, int i) {
        ChordSheet sheet = Checks.sheet(text);
        sheet.removeChord(i);
        return sheet;
    }

    private static void removeAtEnds() {
        places(removed("[C]", 0), "");
        places(removed("[C]a[D]/[E]", 0), "0:1:D 1:0:E");
        places(removed("[C]a[D]/[E]", 1), "0:0:C 1:0:E");
        places(removed("[C]a[D]/[E]", 2), "0:0:C 0:1:D");
        ChordSheet full = removed("[D]" + Checks.repeated("[C]", 38) + "[E]", 0);
        CHECKS.due("the first of 39", "C", Checks.name(full, 0));
        CHECKS.due("the last of 39", "E", Checks.name(full, 38));
        CHECKS.due("the 40th is gone", NO_INDEX, Checks.answer(() -> full.rootOf(39)));
        full.removeChord(38);
        CHECKS.due("the last of 38", "C", Checks.name(full, 37));
    }

    private static void removeAnswers() {
        CHECKS.due("remove the only one", 0, Checks.sheet("[C]").removeChord(0));
        CHECKS.due("remove one of two", 1, Checks.sheet("[C][D]").removeChord(1));
        ChordSheet full = Checks.sheet(Checks.repeated("[C]", 40));
        for (int left = 39; left >= 0; left--) {
            CHECKS.due("remove to " + left, left, full.removeChord(left));
        }
    }

    private static ChordSheet moved(String text, int i, int column) {
        ChordSheet sheet = Checks.sheet(text);
        sheet.moveChord(i, column);
        return sheet;
    }

    private static void moveBehind() {
        places(moved("[C]a[D][E]b[F]", 0, 1), "0:1:D 0:1:E 0:1:C 0:2:F");
        places(moved("[C]a[D][E]b[F]", 3, 0), "0:0:C 0:0:F 0:1:D 0:1:E");
        places(moved("[C]a[D][E]b[F]", 3, 1), "0:0:C 0:1:D 0:1:E 0:1:F");
        // Its own column: it goes behind the others there.
        places(moved("[C]a[D][E]b[F]", 1, 1), "0:0:C 0:1:E 0:1:D 0:2:F");
        places(moved("[C]a[D][E]b[F]", 2, 1), "0:0:C 0:1:D 0:1:E 0:2:F");
        places(moved("ab[C]/a[D][E]b/[F]c", 1, 0), "0:2:C 1:0:D 1:1:E 2:0:F");
        places(moved("ab[C]/a[D][E]b/[F]c", 1, 2), "0:2:C 1:1:E 1:2:D 2:0:F");
        places(moved("a[Cm7/G]", 0, 0), "0:0:Cm7/G");
    }

    private static void moveToEnds() {
        places(moved("a[C]b", 0, 0), "0:0:C");
        places(moved("a[C]b", 0, 2), "0:2:C");
        places(moved("[C]", 0, 0), "0:0:C");
        places(moved("a/[C]/b", 0, 0), "1:0:C");
        places(moved("[C]" + Checks.repeated("x", 197), 0, 197), "0:197:C");
    }

    private static void moveAnswers() {
        ChordSheet sheet = Checks.sheet("[G]/[C]a[D]b[E]");
        CHECKS.due("move to the end", 3, sheet.moveChord(1, 2));
        CHECKS.due("move to the begin", 1, sheet.moveChord(3, 0));
        CHECKS.due("move to its own column", 1, sheet.moveChord(1, 0));
        CHECKS.due("move the only one", 0, sheet.moveChord(0, 0));
        ChordSheet full = Checks.sheet(Checks.repeated("[C]", 40) + "a");
        CHECKS.due("move the first of 40", 39, full.moveChord(0, 0));
        CHECKS.due("move the last of 40", 39, full.moveChord(39, 1));
        CHECKS.due("move it back", 39, full.moveChord(39, 0));
        CHECKS.due("there are 40 still", 40, full.chords());
    }

    private static void moveNowhere() {
        for (int column : new int[] {MIN, -1, 3, 4, 200, MAX}) {
            CHECKS.changesNothing("move to " + column, NO_INDEX,
                    () -> Checks.sheet("abcd/[C]ab[D]/abcd"), sheet -> sheet.moveChord(0, column));
        }
        for (int column : new int[] {-1, 1}) {
            CHECKS.changesNothing("move in an empty line to " + column, NO_INDEX,
                    () -> Checks.sheet("abcd/[C]"), sheet -> sheet.moveChord(0, column));
        }
    }

    private static void common(String first, String second, int tones) {
        ChordSheet sheet = Checks.sheet("[" + first + "][" + second + "]");
        CHECKS.due("common tones of " + first + " and " + second, tones, sheet.commonTones(0));
    }

    private static void tonesWrapAround() {
        // B is 11 3 6, B9 is 11 1 3 6 9, Bmaj7 is 11 3 6 10.
        common("B", "D#m", 2);
        common("B", "Ebm/B", 3);
        common("B9", "F#m7", 3);
        common("B9", "A7", 2);
        common("Bmaj7", "D#m", 3);
        common("Cb", "B", 3);
        common("Cb9", "B9", 5);
        common("B#", "C", 3);
        common("Fb", "E", 3);
        common("Gaug", "Baug", 3);
        String[] tones = {"0 4 7", "0 3 7", "0 4 7 10", "0 3 7 10", "0 4 7 11", "0 3 6", "0 4 8",
            "0 5 7", "0 4 7 9", "0 2 4 7 10"};
        String[] qualities = {"", "m", "7", "m7", "maj7", "dim", "aug", "sus4", "6", "9"};
        String[] roots = {"C", "C#", "D", "Eb", "E", "F", "Gb", "G", "Ab", "A", "A#", "B"};
        for (int quality = 0; quality < 10; quality++) {
            for (int root = 0; root < 12; root++) {
                tonesOf(roots, root, qualities[quality], tones[quality]);
            }
        }
    }

    /** Compares a chord with the major chords on all pitch classes. */
    private static void tonesOf(String[] roots, int root, String quality, String tones) {
        for (int pitch = 0; pitch < 12; pitch++) {
            int due = 0;
            for (String tone : tones.split(" ")) {
                int place = (root + Integer.parseInt(tone)) % 12;
                due += place == pitch || place == (pitch + 4) % 12 || place == (pitch + 7) % 12
                        ? 1 : 0;
            }
            common(roots[root] + quality, roots[pitch], due);
        }
    }

    private static void tonesOfBasses() {
        common("C/D", "D", 1);
        common("D", "C/D", 1);
        common("C", "D", 0);
        // A bass that is a tone of the chord already counts once.
        common("C/E", "C/E", 3);
        common("C/B#", "C", 3);
        common("C/D", "C/D", 4);
        common("C/D", "Gm/C", 3);
        common("F#/C", "C", 1);
        common("F#/B#", "C", 1);
    }

    private static void fewestAndMostTones() {
        common("C", "F#", 0);
        common("C", "C", 3);
        common("C9", "C9", 5);
        common("C9/F", "C9/F", 6);
    }

    private static void noNextChord() {
        String[] texts = {"", "[C]", "[C][D]", "[C]/[D]/[E]", Checks.repeated("[C]", 40)};
        for (String text : texts) {
            int count = Checks.sheet(text).chords();
            for (int i : new int[] {MIN, -1, count - 1, count, count + 1, 39, 40, MAX}) {
                CHECKS.changesNothing("common tones of " + i + " of " + count, NO_INDEX,
                        () -> Checks.sheet(text), sheet -> sheet.commonTones(i));
            }
            if (count > 1) {
                String got = Checks.answer(() -> Checks.sheet(text).commonTones(count - 2));
                CHECKS.due("the last pair has some", false, got.startsWith("throws."));
            }
        }
    }

    private static void firstAndLastDegree() {
        for (int signature = -6; signature <= 6; signature++) {
            int[] major = {0, 2, 4, -1, 1, 3, 5};
            int[] minor = {3, 5, 0, 2, 4, -1, 1};
            for (int n = 0; n < 7; n++) {
                degree(signature, false, signature + major[n], n + 1);
                degree(signature, true, signature + minor[n], n + 1);
            }
        }
    }

    /** The degree of a root with the pitch class of this place. */
    private static void degree(int signature, boolean minor, int place, int due) {
        ChordSheet sheet = Checks.keyed("[" + Checks.sameNote(place) + "]",
                minor ? signature + 3 : signature, minor);
        CHECKS.due("degree of " + place + " in " + signature + (minor ? "m" : ""), due,
                sheet.degree(0));
    }

    private static void noDegree() {
        for (int signature = -6; signature <= 6; signature++) {
            for (int place = signature + 6; place <= signature + 10; place++) {
                degree(signature, false, place, 0);
                degree(signature, true, place, 0);
                degree(signature, true, place - 12, 0);
            }
        }
    }
}
