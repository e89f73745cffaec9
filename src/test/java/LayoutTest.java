/** Promises 34 to 36: the pairs of rows of a line. */
public final class LayoutTest {
    private static final Checks CHECKS = new Checks();
    private static final int MIN = Integer.MIN_VALUE;
    private static final int MAX = Integer.MAX_VALUE;

    public static void main(String[] args) {
        onePair();
        fillers();
        sameColumn();
        chordsAtTheEnd();
        widths();
        breaks();
        longWords();
        chordsAtBreaks();
        lengthsCountChords();
        lineOfItsOwn();
        longestRows();
        refused();
        CHECKS.end("LayoutTest");
    }

    private static void rows(String text, int width, String due) {
        ChordSheet sheet = Checks.sheet(text);
        sheet.setWidth(width);
        CHECKS.due("rows of " + text + " at " + width, due, Checks.rows(sheet, 0));
    }

    private static void onePair() {
        rows("", 200, "||");
        rows("abc", 200, "|abc|");
        rows("[C]", 200, "C||");
        rows("[C]abc", 200, "C|abc|");
        rows("a[C]bc", 200, " C|abc|");
        rows("abc[C]", 200, "   C|abc|");
        rows("[C]ab[G]cd", 200, "C G|abcd|");
        rows("   ", 200, "|   |");
        ChordSheet sheet = Checks.sheet("a[C#m]bc");
        CHECKS.due("length of the chord row", 4, sheet.rowLength(0, 0, 0));
        CHECKS.due("length of the lyric row", 3, sheet.rowLength(0, 0, 1));
        CHECKS.due("a blank above", ' ', sheet.rowChar(0, 0, 0, 0));
        CHECKS.due("a sign of a name", '#', sheet.rowChar(0, 0, 0, 2));
        CHECKS.due("behind the chord row", -1, sheet.rowChar(0, 0, 0, 4));
        CHECKS.due("the last lyric", 'c', sheet.rowChar(0, 0, 1, 2));
        CHECKS.due("behind the lyric row", -1, sheet.rowChar(0, 0, 1, 3));
        CHECKS.due("far behind", -1, sheet.rowChar(0, 0, 1, MAX));
    }

    private static void fillers() {
        rows("[Am7]a[D]b", 200, "Am7 D|a---b|");
        rows("[Am7]a [D]b", 200, "Am7 D|a   b|");
        rows("[Am7]a[D] b", 200, "Am7 D|a    b|");
        rows("[Am7]ab[D]cd", 200, "Am7 D|ab--cd|");
        rows("[Am]abc[D]d", 200, "Am D|abcd|");
        rows("[Am]ab[D]d", 200, "Am D|ab-d|");
        rows("[A]a[D]b", 200, "A D|a-b|");
        rows("[A]ab[D]c", 200, "A D|abc|");
        rows("[Am]a-[D]b", 200, "Am D|a--b|");
        rows("[Fmaj7/E]~[D]!", 200, "Fmaj7/E D|~-------!|");
        rows("abc[D][Am]d", 200, "   D Am|abc--d|");
    }

    private static void sameColumn() {
        rows("[C][G]ab", 200, "C G|  ab|");
        rows("[C][G]", 200, "C G|  |");
        rows("[C][G/B][D]", 200, "C G/B D|      |");
        rows("x[C][G]ab", 200, " C G|x--ab|");
        rows("x [C][G]ab", 200, "  C G|x   ab|");
        rows("x[C][G] ab", 200, " C G|x   ab|");
    }

    private static void chordsAtTheEnd() {
        rows("[C]a[G]", 200, "C G|a |");
        rows("[C]abc[G]", 200, "C  G|abc|");
        rows("[Cmaj7]a[G]", 200, "Cmaj7 G|a     |");
        rows("abc[G][D]", 200, "   G D|abc  |");
        rows("abc [G]", 200, "    G|abc |");
    }

    private static void widths() {
        rows("aaaa bbbb cccc", 10, "|aaaa bbbb ||cccc|");
        rows("aaaa bbbb cccc", 13, "|aaaa bbbb ||cccc|");
        rows("aaaa bbbb cccc", 14, "|aaaa bbbb cccc|");
        rows("aaaa bbbbb cccc", 10, "|aaaa ||bbbbb cccc|");
        rows("aa bb cc dd ee ff", 10, "|aa bb cc ||dd ee ff|");
        rows("aaaaaaaaaa", 10, "|aaaaaaaaaa|");
        rows("aaaaaaaaaaa", 10, "|aaaaaaaaaaa|");
        ChordSheet sheet = Checks.sheet("aaaa bbbb cccc");
        CHECKS.due("pairs", 1, sheet.pairs(0));
        sheet.setWidth(10);
        CHECKS.due("pairs at 10", 2, sheet.pairs(0));
        sheet.setWidth(14);
        CHECKS.due("pairs at 14", 1, sheet.pairs(0));
    }

    private static void breaks() {
        rows("aaaa  bbbb    cccc", 10, "|aaaa  ||bbbb    ||cccc|");
        rows("   aaaa bbbbbb", 10, "|   aaaa ||bbbbbb|");
        rows("        aaaa", 10, "|        ||aaaa|");
        rows("aaaaaaaaa ", 10, "|aaaaaaaaa |");
        rows("aaaaaaaaaa ", 10, "|aaaaaaaaaa |");
        rows("aaaaaaaa   ", 10, "|aaaaaaaa   |");
        rows("a            ", 10, "|a            |");
        rows("a-b-c-d-e-f-g", 10, "|a-b-c-d-e-f-g|");
    }

    private static void longWords() {
        rows("aaaaaaaaaaaa bb cc", 10, "|aaaaaaaaaaaa ||bb cc|");
        rows("bb aaaaaaaaaaaa cc", 10, "|bb ||aaaaaaaaaaaa ||cc|");
        rows("bb aaaaaaaaaaaa", 10, "|bb ||aaaaaaaaaaaa|");
    }

    private static void chordsAtBreaks() {
        rows("[C]aaaa bbbb [D]cccc", 10, "C|aaaa bbbb |D|cccc|");
        rows("[C]aaaa bbbb[D] cccc", 10, "C        D|aaaa bbbb |" + "|cccc|");
        rows("aaaa bbbb [D][E]cccc", 10, "|aaaa bbbb |D E|  cccc|");
        rows("aaaa bbbb [D][Em]cc[A]cc", 10, "|aaaa bbbb |D Em A|  cc-cc|");
        rows("aaaa bbbb ccc[D][E]", 10, "|aaaa bbbb |   D E|ccc  |");
        rows("aaaa bb[F#m7]bb [D]cc", 10, "|aaaa |  F#m7 D|bbbb   cc|");
    }

    private static void lengthsCountChords() {
        // The chords at the last column make the rows too long for one pair.
        rows("aaaa bbbb[C]", 10, "         C|aaaa bbbb|");
        rows("aaaa bbbb[Cm]", 10, "|aaaa |    Cm|bbbb|");
        rows("aaaa bbb[Csus4]", 10, "|aaaa |   Csus4|bbb|");
        rows("aaaaaaaaaa[Cm]", 10, "          Cm|aaaaaaaaaa|");
        rows("aaaaaaaa [Cm]", 10, "         Cm|aaaaaaaa |");
        rows("[Csus4]a[Dsus4]a bb", 10, "Csus4 Dsus4|a-----a |" + "|bb|");
        rows("aa [Csus4]a[Dm]a bb", 12, "   Csus4 Dm|aa a-----a ||bb|");
        rows("aa [Csus4]a[Dm]a bb", 13, "   Csus4 Dm|aa a-----a bb|");
        rows("aa [Csus4]a[Dm]a bb", 10, "|aa |Csus4 Dm|a-----a bb|");
        rows("a [Fmaj7/Bb]b c", 10, "  Fmaj7/Bb|a b c|");
        rows("aa [Fmaj7/Bb]b c", 10, "|aa |Fmaj7/Bb|b c|");
        rows("aa [Fmaj7/Bb]b c", 11, "   Fmaj7/Bb|aa b c|");
        rows("a[Fmaj7/Bb]b c", 10, " Fmaj7/Bb|ab c|");
    }

    private static void lineOfItsOwn() {
        ChordSheet sheet = Checks.sheet("[C]ab/[D]//[E]c[F]/g");
        CHECKS.due("line 0", "C|ab|", Checks.rows(sheet, 0));
        CHECKS.due("line 1", "D||", Checks.rows(sheet, 1));
        CHECKS.due("line 2", "||", Checks.rows(sheet, 2));
        CHECKS.due("line 3", "E F|c |", Checks.rows(sheet, 3));
        CHECKS.due("line 4", "|g|", Checks.rows(sheet, 4));
        ChordSheet order = Checks.sheet("abc");
        Checks.typed(order, "C").addChord(0, 2);
        Checks.typed(order, "D").addChord(0, 1);
        CHECKS.due("added chords", " D C|ab-c|", Checks.rows(order, 0));
        ChordSheet respelled = Checks.sheet("[G]a[A]b");
        respelled.setSimple(false);
        respelled.setKey(9, true);
        respelled.respell();
        CHECKS.due("two sharps", "F## A|a---b|", Checks.rows(respelled, 0));
        CHECKS.due("asking is not kept", 2, respelled.undo());
    }

    /** Forty chords with the longest names over as many letters as can be. */
    private static void longestRows() {
        ChordSheet sheet = Checks.sheet(Checks.repeated("[G]", 40) + Checks.repeated("a", 80));
        for (int i = 0; i < 40; i++) {
            Checks.typed(sheet, "Gmaj7/D").setChord(0);
            CHECKS.due("the chord is the last", 39, sheet.moveChord(0, 80));
        }
        sheet.setSimple(false);
        sheet.setKey(9, true);
        sheet.respell();
        CHECKS.due("pairs", 1, sheet.pairs(0));
        CHECKS.due("the chord row", 80 + 40 * 11 + 39, sheet.rowLength(0, 0, 0));
        CHECKS.due("the lyric row", 80 + 39 * 12, sheet.rowLength(0, 0, 1));
        CHECKS.due("the last sign", '#', sheet.rowChar(0, 0, 0, 558));
        CHECKS.due("the last name", "F##maj7/C##", Checks.name(sheet, 39));
    }

    private static void refused() {
        ChordSheet sheet = Checks.sheet("aaaa bbbb cccc/");
        sheet.setWidth(10);
        for (int line : new int[] {-1, 2, MIN, MAX}) {
            CHECKS.refused("pairs of " + line, Checks.INDEX, sheet, () -> sheet.pairs(line));
            CHECKS.refused("row of line " + line, Checks.INDEX, sheet,
                    () -> sheet.rowLength(line, 0, 0));
            CHECKS.refused("sign of line " + line, Checks.INDEX, sheet,
                    () -> sheet.rowChar(line, 0, 0, 0));
        }
        for (int pair : new int[] {-1, 2, 201, MIN, MAX}) {
            CHECKS.refused("row of pair " + pair, Checks.INDEX, sheet,
                    () -> sheet.rowLength(0, pair, 1));
            CHECKS.refused("sign of pair " + pair, Checks.INDEX, sheet,
                    () -> sheet.rowChar(0, pair, 1, 0));
        }
        for (int row : new int[] {-1, 2, MIN, MAX}) {
            CHECKS.refused("row " + row, Checks.INDEX, sheet, () -> sheet.rowLength(0, 0, row));
            CHECKS.refused("sign of row " + row, Checks.INDEX, sheet,
                    () -> sheet.rowChar(0, 0, row, 0));
        }
        for (int k : new int[] {-1, MIN}) {
            CHECKS.refused("sign " + k, Checks.INDEX, sheet, () -> sheet.rowChar(0, 0, 0, k));
        }
        CHECKS.refused("pair 1 of an empty line", Checks.INDEX, sheet,
                () -> sheet.rowLength(1, 1, 0));
        CHECKS.due("pair 1", 4, sheet.rowLength(0, 1, 1));
    }
}
