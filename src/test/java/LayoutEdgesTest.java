import java.util.function.Supplier;

/** The edges of the layout, promises 34 to 36. */
public final class LayoutEdgesTest {
    private static final Checks CHECKS = new Checks();
    private static final String NO_INDEX = "throws.IndexOutOfBoundsException";
    private static final int MIN = Integer.MIN_VALUE;
    private static final int MAX = Integer.MAX_VALUE;

    public static void main(String[] args) {
        names();
        rows();
        pairs();
        calls();
        CHECKS.end("LayoutEdgesTest");
    }

    private static void names() {
        CHECKS.sentence("The name of a chord is its root, its quality, and, if it has a bass,"
                + " \"/\" and the bass", LayoutEdgesTest::shortestAndLongestNames);
        CHECKS.sentence("(accidentals as #, ##, b and bb)", LayoutEdgesTest::accidentals);
    }

    private static void rows() {
        CHECKS.sentence("is laid out as a chord row and a lyric row, both empty at first",
                LayoutEdgesTest::emptyRows);
        CHECKS.sentence("if the chord row is not empty", LayoutEdgesTest::firstChord);
        CHECKS.sentence("and the lyric row is shorter than the length of the chord row plus 1",
                LayoutEdgesTest::shorterByOne);
        CHECKS.sentence("the lyric row is filled up to that length", LayoutEdgesTest::filledUp);
        CHECKS.sentence("with \"-\" if there are characters of lyrics at the columns k - 1 and k of"
                + " the line", LayoutEdgesTest::atTheEndsOfTheLine);
        CHECKS.sentence("and none of both is a blank, otherwise with blanks",
                LayoutEdgesTest::besideBlanks);
        CHECKS.sentence("Then the chord row is filled up with blanks to the length of the lyric"
                + " row", LayoutEdgesTest::chordRowFilledUp);
        CHECKS.sentence("first each chord at this column, in their order",
                LayoutEdgesTest::manyAtOneColumn);
    }

    private static void pairs() {
        CHECKS.sentence("Its breaks are the columns 0 and n", LayoutEdgesTest::outerBreaks);
        CHECKS.sentence("and each column k whose character is not a blank while that at k - 1 is"
                + " one", LayoutEdgesTest::innerBreaks);
        CHECKS.sentence("a pair that begins at a break ends at the greatest later break with which"
                + " both rows are not longer than the width", LayoutEdgesTest::greatestBreak);
        CHECKS.sentence("or, if there is none, at the next break", LayoutEdgesTest::nextBreak);
        CHECKS.sentence("the next pair begins there", LayoutEdgesTest::nextPair);
        CHECKS.sentence("The chords at column n belong to the last pair and are treated behind its"
                + " last character, as if the part had one more column.",
                LayoutEdgesTest::chordsAtTheEnd);
        CHECKS.sentence("(They count for the lengths, too.)", LayoutEdgesTest::endCounts);
        CHECKS.sentence("A line without characters has one pair.",
                LayoutEdgesTest::withoutCharacters);
        CHECKS.sentence("The width is from 10 to 200", LayoutEdgesTest::outermostWidths);
        CHECKS.sentence("The width is .. initially 200", LayoutEdgesTest::initialWidth);
    }

    private static void calls() {
        CHECKS.sentence("pairs: Returns the number of pairs.", LayoutEdgesTest::fewestAndMost);
        CHECKS.sentence("pairs: Throws IndexOutOfBoundsException if there is no such line",
                () -> noLine("pairs", (sheet, line) -> sheet.pairs(line)));
        CHECKS.sentence("rowLength: Returns its length.", LayoutEdgesTest::shortestAndLongest);
        CHECKS.sentence("rowLength: Throws IndexOutOfBoundsException if there is no such line",
                () -> noLine("rowLength", (sheet, line) -> sheet.rowLength(line, 0, 0)));
        CHECKS.sentence("rowLength: Throws IndexOutOfBoundsException if there is no such .. pair",
                () -> noPair("rowLength", (sheet, pair) -> sheet.rowLength(0, pair, 1)));
        CHECKS.sentence("rowLength: Throws IndexOutOfBoundsException if there is no such .. row",
                () -> noRow("rowLength", (sheet, row) -> sheet.rowLength(0, 0, row)));
        CHECKS.sentence("rowChar: Returns its code; -1 if there are not so many characters.",
                LayoutEdgesTest::endsOfRows);
        CHECKS.sentence("rowChar: Throws IndexOutOfBoundsException if there is no such line",
                () -> noLine("rowChar", (sheet, line) -> sheet.rowChar(line, 0, 0, 0)));
        CHECKS.sentence("rowChar: Throws IndexOutOfBoundsException if there is no such .. pair",
                () -> noPair("rowChar", (sheet, pair) -> sheet.rowChar(0, pair, 1, 0)));
        CHECKS.sentence("rowChar: Throws IndexOutOfBoundsException if there is no such .. row",
                () -> noRow("rowChar", (sheet, row) -> sheet.rowChar(0, 0, row, 0)));
        CHECKS.sentence("rowChar: Throws IndexOutOfBoundsException if .. k is negative",
                LayoutEdgesTest::negativeRowChar);
    }

    /** The rows of the first line, each with a bar behind it. */
    private static void laidOut(String text, int width, String due) {
        ChordSheet sheet = Checks.sheet(text);
        sheet.setWidth(width);
        CHECKS.due("rows of " + text + " at " + width, due, Checks.rows(sheet, 0));
    }

    private static void shortestAndLongestNames() {
        laidOut("[F]", 200, "F||");
        laidOut("[F/F]", 200, "F/F||");
        laidOut("[Bm]", 200, "Bm||");
        laidOut("[Cbmaj7/Ab]", 200, "Cbmaj7/Ab||");
        laidOut("[C9/D]", 200, "C9/D||");
        CHECKS.due("the longest", "F##maj7/C##||",
                Checks.rows(Checks.respelled("[Gmaj7/D]", 9, true), 0));
    }

    private static void accidentals() {
        laidOut("[C#/G#]", 200, "C#/G#||");
        laidOut("[Cb/Gb]", 200, "Cb/Gb||");
        CHECKS.due("two sharps", "F##/C##||", Checks.rows(Checks.respelled("[G/D]", 6, false), 0));
        CHECKS.due("two flats", "Bbb/Bbb||", Checks.rows(Checks.respelled("[A/A]", -6, false), 0));
    }

    private static void emptyRows() {
        laidOut("", 200, "||");
        laidOut("abc", 200, "|abc|");
        laidOut("[C]", 200, "C||");
        // Nothing of the pair before is left in the next one.
        laidOut("[Cmaj7/G]aaaaaaaaa b", 10, "Cmaj7/G|aaaaaaaaa ||b|");
        laidOut("aaaaaaaaaa [C]b", 10, "|aaaaaaaaaa |C|b|");
    }

    private static void firstChord() {
        laidOut("[C]a", 200, "C|a|");
        laidOut("a[C]b", 200, " C|ab|");
        laidOut("abc[C]", 200, "   C|abc|");
        laidOut("[Cmaj7]a", 200, "Cmaj7|a|");
        laidOut("a[Cmaj7]bc", 200, " Cmaj7|abc|");
        laidOut("bb aaaaaaaaa[C]a", 10, "|bb |         C|aaaaaaaaaa|");
    }

    private static void shorterByOne() {
        // The lyric row is longer than the chord row by two, by one, by none.
        laidOut("[C]abc[D]d", 200, "C  D|abcd|");
        laidOut("[C]ab[D]c", 200, "C D|abc|");
        laidOut("[C]a[D]b", 200, "C D|a-b|");
        laidOut("[Cm]abc[D]d", 200, "Cm D|abcd|");
        laidOut("[Cm]ab[D]c", 200, "Cm D|ab-c|");
        laidOut("[Cm]a[D]b", 200, "Cm D|a--b|");
        laidOut("[C]a [D]b", 200, "C D|a b|");
        laidOut("[C] [D]b", 200, "C D|  b|");
    }

    private static void filledUp() {
        laidOut("[Cmaj7]a[D]b", 200, "Cmaj7 D|a-----b|");
        laidOut("[C][D]ab", 200, "C D|  ab|");
        laidOut("[C]a[D/F#]b[E]c", 200, "C D/F# E|a-b----c|");
        // A row that is longer already is left.
        laidOut("[C]abcdefgh[D]i", 200, "C       D|abcdefghi|");
    }

    private static void atTheEndsOfTheLine() {
        // Column 0 has no character before it, column n none at it.
        laidOut("[C][D]a", 200, "C D|  a|");
        laidOut("[C]a[D]", 200, "C D|a |");
        laidOut("a[C][D]", 200, " C D|a  |");
        laidOut("[C]a[D]b", 200, "C D|a-b|");
        laidOut("[C][D]", 200, "C D|  |");
        // The characters of other lines do not count.
        ChordSheet sheet = Checks.sheet("ab/[C][D]cd[E][F]/gh");
        CHECKS.due("a line between", "C D E F|  cd  |", Checks.rows(sheet, 1));
    }

    private static void besideBlanks() {
        laidOut("[Cm]a[D]b", 200, "Cm D|a--b|");
        laidOut("[Cm]a[D] b", 200, "Cm D|a   b|");
        laidOut("[Cm] [D]b", 200, "Cm D|   b|");
        laidOut("[Cm] [D] ", 200, "Cm D|    |");
        laidOut("[Cm]![D]~", 200, "Cm D|!--~|");
        laidOut("[Cm]-[D]b", 200, "Cm D|---b|");
        // A blank that was filled in is no character of the line.
        laidOut("[C][D]a[E]b", 200, "C D E|  a-b|");
        laidOut("[C]a[D][E]b", 200, "C D E|a---b|");
        // A pair begins behind a blank of the line.
        laidOut("aaaaaaaaaa [C][D]b", 10, "|aaaaaaaaaa |C D|  b|");
    }

    private static void chordRowFilledUp() {
        laidOut("abcd[C]e", 200, "    C|abcde|");
        laidOut("[C]abcd[D]e", 200, "C   D|abcde|");
        laidOut("[C]ab[D]c", 200, "C D|abc|");
        laidOut("[C]abcd", 200, "C|abcd|");
        laidOut("    [C]", 200, "    C|    |");
    }

    private static void manyAtOneColumn() {
        laidOut("a[C][D][E]b", 200, " C D E|a----b|");
        ChordSheet sheet = Checks.sheet("ab");
        Checks.typed(sheet, "C").addChord(0, 1);
        Checks.typed(sheet, "D").addChord(0, 1);
        Checks.typed(sheet, "E").addChord(0, 0);
        CHECKS.due("added", "E C D|a---b|", Checks.rows(sheet, 0));
        sheet.moveChord(1, 1);
        CHECKS.due("moved to its own column", "E D C|a---b|", Checks.rows(sheet, 0));
        ChordSheet full = Checks.sheet(Checks.repeated("[C]", 40) + "a");
        CHECKS.due("the chord row of 40", 40 + 39, full.rowLength(0, 0, 0));
        CHECKS.due("the lyric row of 40", 39 * 2 + 1, full.rowLength(0, 0, 1));
        CHECKS.due("pairs of 40", 1, full.pairs(0));
    }

    private static void outerBreaks() {
        laidOut("aaaaaaaaaaaaaaa", 10, "|aaaaaaaaaaaaaaa|");
        laidOut("               ", 10, "|               |");
        laidOut("aaaaaaaaaaaaaa ", 10, "|aaaaaaaaaaaaaa |");
        laidOut("aaaaaaaaaaaa   ", 10, "|aaaaaaaaaaaa   |");
        // Column 0 is a break with a blank at it, and no pair is empty.
        laidOut("  aaaaaaaaaaaaa", 10, "|  ||aaaaaaaaaaaaa|");
        laidOut("a", 10, "|a|");
        laidOut(" ", 10, "| |");
    }

    private static void innerBreaks() {
        laidOut("aaaaaa bbbbbb", 10, "|aaaaaa ||bbbbbb|");
        laidOut("aaaaaa  bbbbbb", 10, "|aaaaaa  ||bbbbbb|");
        laidOut("aaaaaa     bbbbbb", 10, "|aaaaaa     ||bbbbbb|");
        laidOut("          bbbbbb", 10, "|          ||bbbbbb|");
        laidOut("aaaaaa-bbbbbb", 10, "|aaaaaa-bbbbbb|");
        laidOut("aaaaaaa b", 10, "|aaaaaaa b|");
        laidOut("aaaaaaaaaaa b c", 10, "|aaaaaaaaaaa ||b c|");
        // A chord is no character: there is no break before or behind it.
        laidOut("aaaaaa[C]bbbbbb", 10, "      C|aaaaaabbbbbb|");
    }

    private static void greatestBreak() {
        laidOut("aaaa bbbbb", 10, "|aaaa bbbbb|");
        laidOut("aaaa bbbbbb", 10, "|aaaa ||bbbbbb|");
        laidOut("aaaa bbbbbb", 11, "|aaaa bbbbbb|");
        // A blank at the end counts.
        laidOut("aaaa bbbbb ", 10, "|aaaa ||bbbbb |");
        laidOut("aaaa bbbb c", 10, "|aaaa bbbb ||c|");
        laidOut("aaaa bbbbb c", 10, "|aaaa ||bbbbb c|");
        laidOut("a b c d e f", 10, "|a b c d e ||f|");
        laidOut("a b c d e f", 11, "|a b c d e f|");
        // The chord row alone is as long as the width, or longer.
        laidOut("aaaa bbb[Cm] c", 10, "        Cm|aaaa bbb c|");
        laidOut("aaaa bbb[Cm7]b c", 10, "|aaaa |   Cm7|bbbb c|");
        laidOut("aaaa bbb[Cm7]b c", 11, "        Cm7|aaaa bbbb c|");
        // A lyric row that was filled up.
        laidOut("[Cm7]a[Dm7]b c", 10, "Cm7 Dm7|a---b c|");
        laidOut("[Cm7]a[Dm7]b cccccc", 10, "Cm7 Dm7|a---b ||cccccc|");
        laidOut("[Cm7]a[Dm7]b cccc", 10, "Cm7 Dm7|a---b cccc|");
    }

    private static void nextBreak() {
        laidOut("aaaaaaaaaaa", 10, "|aaaaaaaaaaa|");
        laidOut("aaaaaaaaaaa b", 10, "|aaaaaaaaaaa ||b|");
        laidOut("aaaaaaaaaa b c", 10, "|aaaaaaaaaa ||b c|");
        laidOut("a bbbbbbbbbbb c", 10, "|a ||bbbbbbbbbbb ||c|");
        laidOut("aaaaaaaaaaa bbbbbbbbbbb", 10, "|aaaaaaaaaaa ||bbbbbbbbbbb|");
        laidOut("[Cmaj7]a[Dmaj7]a b", 10, "Cmaj7 Dmaj7|a-----a ||b|");
        laidOut("[Cmaj7]a [Dmaj7]a b", 10, "Cmaj7|a |Dmaj7|a b|");
        laidOut("[Cmaj7/G][D]a b", 10, "Cmaj7/G D|        a ||b|");
    }

    private static void nextPair() {
        laidOut("aaaa bbbb cccc dddd", 10, "|aaaa bbbb ||cccc dddd|");
        laidOut("aaaa [C]bbbb [D]cccc [E]dddd", 10, "     C|aaaa bbbb |D    E|cccc dddd|");
        laidOut("aaaa bbbb[C] [D]cccc", 10, "         C|aaaa bbbb |D|cccc|");
        laidOut("aaaa bbbb [C][D]cccc", 10, "|aaaa bbbb |C D|  cccc|");
        laidOut("aaaa [C][D]bbbb cccc", 10, "|aaaa |C D|  bbbb ||cccc|");
    }

    private static void chordsAtTheEnd() {
        laidOut("a[C]", 200, " C|a|");
        laidOut("[C]a[D]", 200, "C D|a |");
        laidOut("[C]ab[D]", 200, "C D|ab|");
        laidOut("ab[C][D]", 200, "  C D|ab  |");
        laidOut("a [C]", 200, "  C|a |");
        laidOut("aaaa bbbb cccc[C]", 10, "|aaaa bbbb |    C|cccc|");
        laidOut("aaaa bbbb cccc [C]", 10, "|aaaa bbbb |     C|cccc |");
        laidOut("[Cmaj7/G]a[D][E]", 200, "Cmaj7/G D E|a         |");
    }

    private static void endCounts() {
        laidOut("aaaa bbbb[C]", 10, "         C|aaaa bbbb|");
        laidOut("aaaa bbbb[Cm]", 10, "|aaaa |    Cm|bbbb|");
        laidOut("aaaa bbbb[Cm]", 11, "         Cm|aaaa bbbb|");
        laidOut("aaaa bbbbb[C]", 10, "|aaaa |     C|bbbbb|");
        laidOut("aaaa bb[C][D]", 10, "       C D|aaaa bb  |");
        laidOut("aaaa bbb[C][D]", 10, "|aaaa |   C D|bbb  |");
        // If there is no other break, they belong to it though it is too long.
        laidOut("aaaaaaaaaa[Cm]", 10, "          Cm|aaaaaaaaaa|");
        laidOut("aa bbbbbbbbbb[Cm]", 10, "|aa |          Cm|bbbbbbbbbb|");
    }

    private static void withoutCharacters() {
        laidOut("", 10, "||");
        laidOut("[C]", 10, "C||");
        laidOut("[Cmaj7/G][Dmaj7/A]", 10, "Cmaj7/G Dmaj7/A|        |");
        ChordSheet sheet = Checks.sheet("a//[C]/b");
        CHECKS.due("pairs of an empty line", 1, sheet.pairs(1));
        CHECKS.due("rows of an empty line", "||", Checks.rows(sheet, 1));
        CHECKS.due("rows of a chord alone", "C||", Checks.rows(sheet, 2));
        CHECKS.due("pairs of a new sheet", 1, new ChordSheet().pairs(0));
        CHECKS.due("pairs of the last of 201 lines", 1,
                Checks.sheet(Checks.repeated("/", 200)).pairs(200));
    }

    private static void outermostWidths() {
        String word = Checks.repeated("a", 99);
        laidOut("aaaa bbbbb", 10, "|aaaa bbbbb|");
        laidOut("aaaa bbbbbb", 10, "|aaaa ||bbbbbb|");
        laidOut(word + " " + word + "a", 200, "|" + word + " " + word + "a|");
        laidOut(word + " " + word + "a", 199, "|" + word + " ||" + word + "a|");
        laidOut(word + " " + word, 199, "|" + word + " " + word + "|");
    }

    private static ChordSheet longLine() {
        return Checks.sheet(Checks.repeated("a", 99) + " " + Checks.repeated("b", 100));
    }

    private static void initialWidth() {
        ChordSheet fits = longLine();
        CHECKS.due("200 characters", 1, fits.pairs(0));
        Checks.typed(fits, "C").addChord(0, 199);
        CHECKS.due("200 characters of chords", 1, fits.pairs(0));
        ChordSheet tooLong = longLine();
        Checks.typed(tooLong, "C").addChord(0, 200);
        CHECKS.due("201 characters of chords", 2, tooLong.pairs(0));
        CHECKS.due("the first pair", 100, tooLong.rowLength(0, 0, 1));
        CHECKS.due("the second pair", 101, tooLong.rowLength(0, 1, 0));
        CHECKS.due("the width", 200, new ChordSheet().setWidth(10));
    }

    private static void fewestAndMost() {
        CHECKS.due("of an empty line", 1, new ChordSheet().pairs(0));
        ChordSheet sheet = Checks.sheet(Checks.repeated("a ", 100));
        sheet.setWidth(10);
        CHECKS.due("of 100 short words", 20, sheet.pairs(0));
        for (int n = 0; n < 40; n++) {
            Checks.typed(sheet, "Cbmaj7/Ab").addChord(0, 2 * n);
        }
        // 40 words of 10 each with its chord, and 60 short words in 12.
        CHECKS.due("of 40 chords", 40 + 12, sheet.pairs(0));
        sheet.setWidth(200);
        CHECKS.due("of a great width", 3, sheet.pairs(0));
    }

    private static void shortestAndLongest() {
        CHECKS.due("of an empty chord row", 0, new ChordSheet().rowLength(0, 0, 0));
        CHECKS.due("of an empty lyric row", 0, new ChordSheet().rowLength(0, 0, 1));
        ChordSheet sheet = Checks.sheet(Checks.repeated("a", 200));
        for (int n = 0; n < 40; n++) {
            Checks.typed(sheet, "Gmaj7/D").addChord(0, 200);
        }
        sheet.setKey(9, true);
        sheet.setSimple(false);
        sheet.respell();
        CHECKS.due("of the longest chord row", 200 + 40 * 11 + 39, sheet.rowLength(0, 0, 0));
        CHECKS.due("of its lyric row", 200 + 39 * 12, sheet.rowLength(0, 0, 1));
        for (int n = 0; n < 40; n++) {
            sheet.moveChord(n, 199);
        }
        CHECKS.due("of its lyric row before the last", 200 + 39 * 12, sheet.rowLength(0, 0, 1));
        CHECKS.due("its last character", 'a', sheet.rowChar(0, 0, 1, 199 + 39 * 12));
        CHECKS.due("the last of its chord row", '#', sheet.rowChar(0, 0, 0, 677));
        CHECKS.due("behind it", -1, sheet.rowChar(0, 0, 0, 678));
    }

    private interface NumberUse {
        long of(ChordSheet sheet, int number);
    }

    private static void refused(String what, int[] numbers, Supplier<ChordSheet> maker,
            NumberUse use) {
        for (int number : numbers) {
            CHECKS.changesNothing(what + " of " + number, NO_INDEX, maker,
                    sheet -> use.of(sheet, number));
        }
    }

    private static void answered(String what, int number, Supplier<ChordSheet> maker,
            NumberUse use) {
        String got = Checks.answer(() -> use.of(maker.get(), number));
        CHECKS.due(what + " of " + number + " throws", false, got.startsWith("throws."));
    }

    private static void noLine(String name, NumberUse use) {
        refused(name, new int[] {MIN, -2, -1, 1, 2, 200, 201, MAX}, ChordSheet::new, use);
        answered(name, 0, ChordSheet::new, use);
        Supplier<ChordSheet> three = () -> Checks.sheet("[C]a//b");
        refused(name, new int[] {MIN, -1, 3, 4, 201, MAX}, three, use);
        answered(name, 2, three, use);
        Supplier<ChordSheet> many = () -> Checks.sheet(Checks.repeated("/", 200));
        refused(name, new int[] {MIN, -1, 201, 202, MAX}, many, use);
        answered(name, 200, many, use);
        refused(name, new int[] {1, 2, 3, 4, 5}, Checks::shorter, use);
    }

    private static ChordSheet twoPairs() {
        ChordSheet sheet = Checks.sheet("aaaa bbbb cccc/dddd/eeee");
        sheet.setWidth(10);
        return sheet;
    }

    private static void noPair(String name, NumberUse use) {
        refused(name, new int[] {MIN, -1, 1, 2, 200, 201, MAX}, ChordSheet::new, use);
        answered(name, 0, ChordSheet::new, use);
        refused(name, new int[] {MIN, -1, 2, 3, 200, 201, MAX}, LayoutEdgesTest::twoPairs, use);
        answered(name, 1, LayoutEdgesTest::twoPairs, use);
    }

    private static void noRow(String name, NumberUse use) {
        refused(name, new int[] {MIN, -2, -1, 2, 3, MAX}, LayoutEdgesTest::twoPairs, use);
        refused(name, new int[] {MIN, -1, 2, MAX}, ChordSheet::new, use);
        answered(name, 0, ChordSheet::new, use);
        answered(name, 1, ChordSheet::new, use);
    }

    private static void endsOfRows() {
        ChordSheet sheet = Checks.sheet("a[C#]bc/");
        CHECKS.due("the first of the chord row", ' ', sheet.rowChar(0, 0, 0, 0));
        CHECKS.due("the last of the chord row", '#', sheet.rowChar(0, 0, 0, 2));
        CHECKS.due("the first of the lyric row", 'a', sheet.rowChar(0, 0, 1, 0));
        CHECKS.due("the last of the lyric row", 'c', sheet.rowChar(0, 0, 1, 2));
        for (int k : new int[] {3, 4, 200, 1000, MAX}) {
            CHECKS.due("chord row at " + k, -1, sheet.rowChar(0, 0, 0, k));
            CHECKS.due("lyric row at " + k, -1, sheet.rowChar(0, 0, 1, k));
        }
        CHECKS.due("of an empty chord row", -1, sheet.rowChar(1, 0, 0, 0));
        CHECKS.due("of an empty lyric row", -1, sheet.rowChar(1, 0, 1, 0));
        // What was cut off behind a break is not in the row any more.
        CHECKS.due("behind a break", -1, twoPairs().rowChar(0, 0, 1, 10));
    }

    private static void negativeRowChar() {
        for (int row = 0; row < 2; row++) {
            for (int k : new int[] {-1, -2, MIN}) {
                int of = row;
                CHECKS.changesNothing("row " + row + " at " + k, NO_INDEX,
                        () -> Checks.sheet("[C]a"), sheet -> sheet.rowChar(0, 0, of, k));
                CHECKS.changesNothing("empty row " + row + " at " + k, NO_INDEX, ChordSheet::new,
                        sheet -> sheet.rowChar(0, 0, of, k));
            }
        }
    }
}
