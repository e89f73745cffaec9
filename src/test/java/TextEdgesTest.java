import java.util.HashSet;
import java.util.Set;

/** The edges of the text: a test for each sentence of the document, promises 1 to 7. */
public final class TextEdgesTest {
    private static final Checks CHECKS = new Checks();
    private static final String[] QUALITIES =
        {"", "m", "7", "m7", "maj7", "dim", "aug", "sus4", "6", "9"};

    public static void main(String[] args) {
        CHECKS.sentence("A note is a letter A to G", TextEdgesTest::letters);
        CHECKS.sentence("Written notes in texts have at most one accidental.",
                TextEdgesTest::oneAccidental);
        CHECKS.sentence("There is a text, a buffer of at most 200 characters",
                TextEdgesTest::atMost200);
        CHECKS.sentence("with codes from 32 to 126", TextEdgesTest::allCodes);
        CHECKS.sentence("initially empty", TextEdgesTest::initiallyEmpty);
        CHECKS.sentence("in which \"/\" separates lines outside of brackets",
                TextEdgesTest::separators);
        CHECKS.sentence("A chord in brackets stands directly before the character of the lyrics"
                + " over which it is sounded, or at the end of its line.",
                TextEdgesTest::whereChordsStand);
        CHECKS.sentence("Inside brackets there is a root (a written note), a quality, and perhaps"
                + " \"/\" and a bass (a written note).", TextEdgesTest::partsOfChords);
        CHECKS.sentence("The qualities are, with their numbers", TextEdgesTest::qualities);
        CHECKS.sentence("outside of brackets only \"]\" is wrong",
                TextEdgesTest::wrongOutsideOfBrackets);
        CHECKS.sentence("inside, each character that no chord can have at its place",
                TextEdgesTest::wrongInside);
        CHECKS.sentence("If the text ends inside brackets, it is wrong at its length.",
                TextEdgesTest::endsInside);
        CHECKS.sentence("There can be at most 40 chords; the \"[\" of another one is wrong.",
                TextEdgesTest::atMost40);
        CHECKS.sentence("Creates a sheet with one empty line, in C major.",
                TextEdgesTest::newSheet);
        calls();
        CHECKS.end("TextEdgesTest");
    }

    private static void calls() {
        CHECKS.sentence("type: Returns the length of the text.", TextEdgesTest::typeAnswers);
        CHECKS.sentence("type: Throws IllegalArgumentException if c is out of its range",
                TextEdgesTest::typeOutOfRange);
        CHECKS.sentence("type: Throws IllegalStateException if the text has 200 characters"
                + " already", TextEdgesTest::typeIntoFull);
        CHECKS.sentence("clearText: Makes the text empty.", TextEdgesTest::clearMakesEmpty);
        CHECKS.sentence("clearText: Returns the length that it had.",
                TextEdgesTest::clearAnswers);
        CHECKS.sentence("read: Reads the text as a sheet.", TextEdgesTest::readEmptyAndFull);
        CHECKS.sentence("read: The text is empty then.", TextEdgesTest::readEmpties);
        CHECKS.sentence("read: If the text is wrong, nothing is changed.",
                TextEdgesTest::readWrongChangesNothing);
        CHECKS.sentence("read: Returns the number of chords", TextEdgesTest::readCounts);
        CHECKS.sentence("read: -1 minus the index of the first wrong character (or the length of"
                + " the text) if the text is wrong", TextEdgesTest::readFirstWrong);
        CHECKS.sentence("setSimple: Returns true if it was on before.",
                TextEdgesTest::simpleBefore);
        CHECKS.sentence("setFlats: Returns true if it was on before.", TextEdgesTest::flatsBefore);
        CHECKS.sentence("setWidth: width: 10 to 200", TextEdgesTest::widthRange);
        CHECKS.sentence("setWidth: Returns the previous width.", TextEdgesTest::widthBefore);
        CHECKS.sentence("setWidth: Throws IllegalArgumentException if width is out of its range",
                TextEdgesTest::widthOutOfRange);
    }

    private static void reads(String text, int answer) {
        CHECKS.due("read " + text, answer, Checks.readAnswer(new ChordSheet(), text));
    }

    /** The text as a chord without brackets, which is set and added. */
    private static void chordReads(String text, int answer) {
        ChordSheet one = Checks.typed(Checks.sheet("[C]a"), text);
        CHECKS.due("set " + text, answer, one.setChord(0));
        ChordSheet none = Checks.typed(new ChordSheet(), text);
        CHECKS.due("add " + text, answer, none.addChord(0, 0));
    }

    private static void letters() {
        for (char c = 32; c <= 126; c++) {
            boolean isLetter = c >= 'A' && c <= 'G';
            reads("[" + c + "]", isLetter ? 1 : -2);
            reads("[C/" + c + "]", isLetter ? 1 : -4);
            chordReads("" + c, isLetter ? 0 : -1);
            chordReads("C/" + c, isLetter ? 0 : -3);
        }
    }

    private static void oneAccidental() {
        for (String first : new String[] {"#", "b"}) {
            reads("[C" + first + "]", 1);
            reads("[D/C" + first + "]", 1);
            chordReads("C" + first, 0);
            chordReads("D/C" + first, 0);
            for (String second : new String[] {"#", "b"}) {
                reads("[C" + first + second + "]", -4);
                reads("[D/C" + first + second + "]", -6);
                reads("[DmC" + first + second + "]", -4);
                chordReads("C" + first + second, -3);
                chordReads("D/C" + first + second, -5);
            }
        }
    }

    private static void atMost200() {
        ChordSheet sheet = new ChordSheet();
        Checks.typed(sheet, Checks.repeated("x", 199));
        CHECKS.due("type the 200th", 200, sheet.type('y'));
        CHECKS.due("type the 201st", "throws.IllegalStateException",
                Checks.answer(() -> sheet.type('z')));
        CHECKS.due("read all 200", 0, sheet.read());
        CHECKS.due("their number", 200, sheet.lyrics(0));
        CHECKS.due("the 199th", 'x', sheet.lyric(0, 198));
        CHECKS.due("the 200th", 'y', sheet.lyric(0, 199));
    }

    private static void allCodes() {
        for (char c = 32; c <= 126; c++) {
            ChordSheet sheet = new ChordSheet();
            CHECKS.due("type " + (int) c, 1, sheet.type(c));
            if (c != '/' && c != '[' && c != ']') {
                CHECKS.due("read " + c, 0, sheet.read());
                CHECKS.due("the lyric " + c, c, sheet.lyric(0, 0));
            }
        }
        for (int c : new int[] {31, 127}) {
            CHECKS.due("type " + c, "throws.IllegalArgumentException",
                    Checks.answer(() -> new ChordSheet().type(c)));
        }
    }

    private static void initiallyEmpty() {
        CHECKS.due("the first length", 1, new ChordSheet().type('a'));
        CHECKS.due("the length of the first text", 0, new ChordSheet().clearText());
        CHECKS.due("read the first text", 0, new ChordSheet().read());
    }

    private static void lines(String text, String due) {
        ChordSheet sheet = Checks.sheet(text);
        StringBuilder lines = new StringBuilder();
        for (int line = 0; line < sheet.lines(); line++) {
            lines.append('|').append(Checks.lyricsOf(sheet, line));
        }
        CHECKS.due("lines of " + text, due, lines.toString());
    }

    private static void separators() {
        lines("", "|");
        lines("/", "||");
        lines("//", "|||");
        lines("a/", "|a|");
        lines("/a", "||a");
        lines("a/b", "|a|b");
        lines("[C]/[D]", "||");
        lines("a[C/G]b", "|ab");
        lines("[C/G]/[C/G]/", "|||");
        lines(Checks.repeated("/", 200), Checks.repeated("|", 201));
        lines(Checks.repeated("/", 199) + "z", Checks.repeated("|", 200) + "z");
        lines("z" + Checks.repeated("/", 199), "|z" + Checks.repeated("|", 199));
    }

    private static void places(String text, String due) {
        CHECKS.due("chords of " + text, due, Checks.places(Checks.sheet(text)));
    }

    private static void whereChordsStand() {
        places("[C]a", "0:0:C");
        places("a[C]b", "0:1:C");
        places("a[C]", "0:1:C");
        places("[C]", "0:0:C");
        places("[C]/", "0:0:C");
        places("/[C]", "1:0:C");
        places("a[C]/b", "0:1:C");
        places("a/[C]b", "1:0:C");
        places("a/b[C]", "1:1:C");
        places(Checks.repeated("a", 197) + "[C]", "0:197:C");
        places(Checks.repeated("/", 197) + "[C]", "197:0:C");
    }

    private static void partsOfChords() {
        reads("[]", -2);
        reads("[m]", -2);
        reads("[7]", -2);
        reads("[/]", -2);
        reads("[/C]", -2);
        reads("[#]", -2);
        reads("[C/]", -4);
        reads("[Cm/]", -5);
        reads("[C/m]", -4);
        reads("[C/G/]", -5);
        reads("[C/G/G]", -5);
        reads("[C/Gm]", -5);
        reads("[CC]", -3);
        reads("[C]", 1);
        reads("[Cm/G]", 1);
        places("[C]", "0:0:C");
        places("[C/C]", "0:0:C/C");
        places("[Cmaj7/G#]", "0:0:Cmaj7/G#");
    }

    private static void qualities() {
        for (int quality = 0; quality < QUALITIES.length; quality++) {
            for (String root : new String[] {"C", "B#", "Bb"}) {
                for (String bass : new String[] {"", "/Eb"}) {
                    String chord = root + QUALITIES[quality] + bass;
                    ChordSheet sheet = Checks.sheet("[" + chord + "]");
                    CHECKS.due("quality of " + chord, quality, sheet.qualityOf(0));
                    CHECKS.due("name of " + chord, chord, Checks.name(sheet, 0));
                }
            }
        }
    }

    private static void wrongOutsideOfBrackets() {
        for (char c = 32; c <= 126; c++) {
            if (c != '[') {
                reads("" + c, c == ']' ? -1 : 0);
                reads("[C]" + c, c == ']' ? -4 : 1);
                reads("a" + c + "[C]", c == ']' ? -2 : 1);
                reads("a/" + c, c == ']' ? -3 : 0);
            }
        }
        reads(Checks.repeated("a", 199) + "]", -200);
    }

    private static Set<String> someChords() {
        Set<String> chords = new HashSet<>();
        for (String root : new String[] {"C", "F#", "Bb"}) {
            for (String quality : QUALITIES) {
                for (String bass : new String[] {"", "/D", "/G#", "/Ab"}) {
                    chords.add(root + quality + bass);
                }
            }
        }
        return chords;
    }

    private static Set<String> beginningsOf(Set<String> words) {
        Set<String> beginnings = new HashSet<>();
        for (String word : words) {
            for (int k = 0; k <= word.length(); k++) {
                beginnings.add(word.substring(0, k));
            }
        }
        return beginnings;
    }

    /** Whether the text is a chord: these two are written without the table of qualities. */
    private static boolean isChord(String text) {
        return text.matches("[A-G][#b]?(m|7|m7|maj7|dim|aug|sus4|6|9)?(/[A-G][#b]?)?");
    }

    private static boolean beginsChord(String text) {
        return isChord(text) || text.isEmpty() || text.endsWith("/")
                && isChord(text + "C") || text.matches("[A-G][#b]?(ma|maj|d|di|a|au|s|su|sus)");
    }

    private static void wrongInside() {
        for (String beginning : beginningsOf(someChords())) {
            for (char c = 32; c <= 126; c++) {
                String text = beginning + c;
                if (c == ']' && isChord(beginning)) {
                    reads("[" + text, 1);
                } else {
                    // Behind a right character the text ends inside the brackets.
                    reads("[" + text, -1 - text.length() - (beginsChord(text) ? 1 : 0));
                    chordReads(text, isChord(text) ? 0
                            : -text.length() - (beginsChord(text) ? 1 : 0));
                }
            }
        }
    }

    private static void endsInside() {
        Set<String> beginnings = beginningsOf(someChords());
        for (String beginning : beginnings) {
            reads("[" + beginning, -2 - beginning.length());
            reads("a/[C]b[" + beginning, -8 - beginning.length());
        }
        for (String end : new String[] {"[", "[C", "[C#", "[Cma", "[C/", "[Cm/G"}) {
            String text = Checks.repeated("a", 200 - end.length()) + end;
            reads(text, -201);
        }
    }

    private static void atMost40() {
        String forty = Checks.repeated("[C]", 40);
        reads(Checks.repeated("[C]", 39), 39);
        reads(forty, 40);
        reads(forty + "a", 40);
        reads(forty + "[", -121);
        reads(forty + "[D]", -121);
        reads(forty + "[x", -121);
        reads(forty + "ab[D]", -123);
        reads(forty + "/[D]", -122);
        reads(forty + "a][D]", -122);
        reads(forty + "[D]]", -121);
        reads(Checks.repeated("[C]/", 40) + "[D]", -161);
        reads(Checks.repeated("[C]a", 40) + "/b[D]", -163);
        reads(forty + Checks.repeated("a", 79) + "[", -200);
        CHECKS.due("the 40th", "D", Checks.name(Checks.sheet(
                Checks.repeated("[C]", 39) + "[D]"), 39));
    }

    private static void newSheet() {
        ChordSheet sheet = new ChordSheet();
        CHECKS.due("its lines", 1, sheet.lines());
        CHECKS.due("its lyrics", 0, sheet.lyrics(0));
        CHECKS.due("its chords", 0, sheet.chords());
        CHECKS.due("its key", "0", Checks.key(sheet));
        CHECKS.due("its signature", 0, sheet.signature());
        CHECKS.due("its rows", "||", Checks.rows(sheet, 0));
    }

    private static void typeAnswers() {
        ChordSheet sheet = new ChordSheet();
        for (int k = 1; k <= 200; k++) {
            CHECKS.due("type number " + k, k, sheet.type(k % 2 == 0 ? 32 : 126));
        }
    }

    private static void typeOutOfRange() {
        for (int c : new int[] {Integer.MIN_VALUE, -32, -1, 0, 31, 127, 128, 65 + 256, 65 + 65536,
            Integer.MAX_VALUE}) {
            CHECKS.changesNothing("type " + c, "throws.IllegalArgumentException",
                    () -> Checks.typed(Checks.sheet("[D]a"), "bc"), sheet -> sheet.type(c));
        }
    }

    private static void typeIntoFull() {
        for (int c : new int[] {32, 65, 126}) {
            CHECKS.changesNothing("type into a full text", "throws.IllegalStateException",
                    () -> Checks.typed(new ChordSheet(), Checks.repeated("[Em]", 40)
                            + Checks.repeated("x", 40)), sheet -> sheet.type(c));
        }
        ChordSheet nearly = Checks.typed(new ChordSheet(), Checks.repeated("x", 199));
        CHECKS.due("type into a text of 199", "200", Checks.answer(() -> nearly.type('x')));
    }

    private static void clearMakesEmpty() {
        ChordSheet sheet = Checks.typed(new ChordSheet(), Checks.repeated("x", 200));
        sheet.clearText();
        CHECKS.due("type into it", 1, sheet.type('y'));
        sheet.clearText();
        CHECKS.due("read it", 0, sheet.read());
        CHECKS.due("nothing was read", 0, sheet.lyrics(0));
    }

    private static void clearAnswers() {
        ChordSheet sheet = new ChordSheet();
        CHECKS.due("clear a new text", 0, sheet.clearText());
        for (int length : new int[] {1, 199, 200}) {
            Checks.typed(sheet, Checks.repeated("x", length));
            CHECKS.due("clear a text of " + length, length, sheet.clearText());
            CHECKS.due("clear it once more", 0, sheet.clearText());
        }
    }

    private static void readEmptyAndFull() {
        ChordSheet sheet = Checks.sheet("[Am]a/b[E]/[Am]");
        CHECKS.due("read an empty text", 0, sheet.read());
        CHECKS.due("lines of an empty text", 1, sheet.lines());
        CHECKS.due("lyrics of an empty text", 0, sheet.lyrics(0));
        CHECKS.due("chords of an empty text", 0, sheet.chords());
        CHECKS.due("key of an empty text", "0", Checks.key(sheet));
        String full = Checks.repeated("a", 98) + "/" + Checks.repeated("b", 98) + "[C]";
        CHECKS.due("read a full text", 1, Checks.readAnswer(sheet, full));
        CHECKS.due("lines of a full text", 2, sheet.lines());
        CHECKS.due("its first line", Checks.repeated("a", 98), Checks.lyricsOf(sheet, 0));
        CHECKS.due("its last line", Checks.repeated("b", 98), Checks.lyricsOf(sheet, 1));
        CHECKS.due("its chord", "1:98:C", Checks.places(sheet));
    }

    private static void readEmpties() {
        for (String text : new String[] {"", "x", "[C]", Checks.repeated("y", 200)}) {
            ChordSheet sheet = Checks.typed(new ChordSheet(), text);
            sheet.read();
            CHECKS.due("the length behind read of " + text, 0, sheet.clearText());
            Checks.typed(sheet, text).read();
            CHECKS.due("the first length behind read of " + text, 1, sheet.type('z'));
        }
    }

    private static void readWrongChangesNothing() {
        String[] texts = {"]", "[", "ab/[D]c]", "a/b/c/[E][D", "[C][x]",
            Checks.repeated("[C]", 41)};
        for (String text : texts) {
            int first = Checks.readAnswer(new ChordSheet(), text);
            CHECKS.changesNothing("read " + text, String.valueOf(first),
                    () -> Checks.typed(Checks.keyed("[Am]a/b", -3, true), text),
                    ChordSheet::read);
            CHECKS.changesNothing("read " + text + " on a new sheet", String.valueOf(first),
                    () -> Checks.typed(new ChordSheet(), text), ChordSheet::read);
        }
    }

    private static void readCounts() {
        reads("", 0);
        reads("a", 0);
        reads("[C]", 1);
        reads("a[C]/[D]b", 2);
        reads(Checks.repeated("[C]", 40), 40);
        ChordSheet sheet = Checks.sheet("[C][D]");
        CHECKS.due("read over others", 1, Checks.readAnswer(sheet, "[C]"));
    }

    private static void readFirstWrong() {
        reads("]", -1);
        reads("]]", -1);
        reads("a]", -2);
        reads("][x]", -1);
        reads("[x]]", -2);
        reads("[x", -2);
        reads("[C]]x[y", -4);
        reads("[C]a[D]b[Ex]", -11);
        reads("[", -2);
        reads("[C", -3);
        reads(Checks.repeated("a", 199) + "]", -200);
        reads(Checks.repeated("a", 199) + "[", -201);
        reads(Checks.repeated("a", 198) + "[x", -200);
    }

    private static void simpleBefore() {
        ChordSheet sheet = new ChordSheet();
        CHECKS.due("at first", true, sheet.setSimple(true));
        CHECKS.due("on behind on", true, sheet.setSimple(false));
        CHECKS.due("off behind off", false, sheet.setSimple(false));
        CHECKS.due("on behind off", false, sheet.setSimple(true));
        CHECKS.due("flats does not count", false, sheet.setFlats(false));
    }

    private static void flatsBefore() {
        ChordSheet sheet = new ChordSheet();
        CHECKS.due("at first", false, sheet.setFlats(false));
        CHECKS.due("on behind off", false, sheet.setFlats(true));
        CHECKS.due("on behind on", true, sheet.setFlats(true));
        CHECKS.due("off behind on", true, sheet.setFlats(false));
        CHECKS.due("simple does not count", true, sheet.setSimple(true));
    }

    private static void widthRange() {
        ChordSheet sheet = new ChordSheet();
        int before = 200;
        for (int width = 10; width <= 200; width++) {
            CHECKS.due("set " + width, before, sheet.setWidth(width));
            before = width;
        }
    }

    private static void widthBefore() {
        ChordSheet sheet = new ChordSheet();
        CHECKS.due("at first", 200, sheet.setWidth(10));
        CHECKS.due("the least", 10, sheet.setWidth(10));
        CHECKS.due("the same", 10, sheet.setWidth(200));
        CHECKS.due("a refused one", "throws.IllegalArgumentException",
                Checks.answer(() -> sheet.setWidth(9)));
        CHECKS.due("the greatest", 200, sheet.setWidth(11));
    }

    private static void widthOutOfRange() {
        for (int width : new int[] {Integer.MIN_VALUE, -10, -1, 0, 9, 201, 266,
            Integer.MAX_VALUE}) {
            CHECKS.changesNothing("set " + width, "throws.IllegalArgumentException",
                    TextEdgesTest::keptWidth, sheet -> sheet.setWidth(width));
        }
    }

    private static ChordSheet keptWidth() {
        ChordSheet sheet = Checks.sheet("[D]a");
        sheet.setWidth(77);
        return sheet;
    }
}
