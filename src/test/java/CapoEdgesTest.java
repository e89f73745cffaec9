/** The edges of shapes and capo positions, promises 32 and 33. */
public final class CapoEdgesTest {
    private static final Checks CHECKS = new Checks();

    public static void main(String[] args) {
        CHECKS.sentence("With a capo at fret c (0 to 7)", CapoEdgesTest::frets);
        CHECKS.sentence("the chords with all pitch classes decreased by c, modulo 12",
                CapoEdgesTest::wrapAround);
        CHECKS.sentence("1 if its root's pitch class and quality are among the easy ones",
                CapoEdgesTest::easyOnes);
        CHECKS.sentence("all others none), otherwise 4", CapoEdgesTest::otherQualities);
        CHECKS.sentence("plus 1 if its quality is greater than 3", CapoEdgesTest::quality);
        CHECKS.sentence("plus 1 if it has a bass with another pitch class than the root",
                CapoEdgesTest::basses);
        CHECKS.sentence("The difficulty of a capo position is the sum over all chords, plus c",
                CapoEdgesTest::sums);
        CHECKS.sentence("plus 1 for each pair of successive chords whose shapes are both not among"
                + " the easy ones", CapoEdgesTest::bothNotEasy);
        CHECKS.sentence("and have roots with different pitch classes",
                CapoEdgesTest::differentRoots);
        CHECKS.sentence("difficulty: Throws IllegalArgumentException if fret is out of its range",
                CapoEdgesTest::fretOutOfRange);
        CHECKS.sentence("bestCapo: Returns the fret with the least difficulty",
                CapoEdgesTest::leastDifficulty);
        CHECKS.sentence("bestCapo: of several the smallest one", CapoEdgesTest::smallestFret);
        CHECKS.end("CapoEdgesTest");
    }

    private static void difficulty(String text, int fret, int due) {
        CHECKS.due("difficulty of " + text + " at " + fret, due,
                Checks.sheet(text).difficulty(fret));
    }

    private static void frets() {
        // G is a shape of C# at fret 6, of D at fret 7.
        difficulty("[G]", 0, 1);
        difficulty("[C#]", 6, 1 + 6);
        difficulty("[D]", 7, 1 + 7);
        for (int fret : new int[] {-1, 8}) {
            CHECKS.due("fret " + fret, "throws.IllegalArgumentException",
                    Checks.answer(() -> Checks.sheet("[G]").difficulty(fret)));
        }
    }

    private static void wrapAround() {
        // C at fret 1 is B, which is easy only as B7; at fret 2 it is Bb, at fret 3 A.
        difficulty("[C]", 1, 4 + 1);
        difficulty("[C7]", 1, 1 + 1);
        difficulty("[C7]", 2, 4 + 2);
        difficulty("[C7]", 3, 1 + 3);
        difficulty("[C]", 3, 1 + 3);
        difficulty("[Cm]", 3, 1 + 3);
        difficulty("[Cm7]", 3, 1 + 3);
        difficulty("[Cm]", 7, 4 + 7);
        difficulty("[E]", 7, 1 + 7);
        difficulty("[Eb]", 7, 4 + 7);
        difficulty("[B#]", 3, 1 + 3);
        difficulty("[Cb]", 7, 1 + 7);
        difficulty("[Fb]", 7, 1 + 7);
        difficulty("[Gb/Bb]", 7, 4 + 1 + 7);
    }

    private static void easyOnes() {
        String[] roots = {"C", "C#", "D", "Eb", "E", "F", "F#", "G", "Ab", "A", "Bb", "B"};
        String[] qualities = {"", "m", "7", "m7"};
        // One sign for each root: e is easy.
        String[] easy = {"e-e-e--e-e--", "--e-e----e--", "e-e-e--e-e-e", "--e-e----e--"};
        for (int q = 0; q < qualities.length; q++) {
            for (int n = 0; n < roots.length; n++) {
                difficulty("[" + roots[n] + qualities[q] + "]", 0,
                        easy[q].charAt(n) == 'e' ? 1 : 4);
            }
        }
        difficulty("[B#]", 0, 1);
        difficulty("[Fbm]", 0, 1);
        difficulty("[Cb7]", 0, 1);
        difficulty("[E#m7]", 0, 4);
    }

    private static void otherQualities() {
        for (String quality : new String[] {"maj7", "dim", "aug", "sus4", "6", "9"}) {
            for (String root : new String[] {"C", "D", "E", "G", "A", "B"}) {
                difficulty("[" + root + quality + "]", 0, 4 + 1);
                difficulty("[" + root + quality + "]", 7, 4 + 1 + 7);
            }
        }
    }

    private static void quality() {
        difficulty("[F]", 0, 4);
        difficulty("[Fm7]", 0, 4);
        difficulty("[Fmaj7]", 0, 4 + 1);
        difficulty("[F9]", 0, 4 + 1);
        difficulty("[Am7]", 0, 1);
        difficulty("[Amaj7]", 0, 4 + 1);
    }

    private static void basses() {
        difficulty("[C]", 0, 1);
        difficulty("[C/C]", 0, 1);
        difficulty("[C/B#]", 0, 1);
        difficulty("[F#/Gb]", 0, 4);
        difficulty("[C/B]", 0, 2);
        difficulty("[C/C#]", 0, 2);
        difficulty("[F9/A]", 0, 4 + 1 + 1);
        difficulty("[F/C]", 5, 1 + 1 + 5);
        difficulty("[C/E]", 0, 2);
    }

    private static void sums() {
        for (int fret = 0; fret <= 7; fret++) {
            difficulty("", fret, fret);
            CHECKS.due("a new sheet at " + fret, fret, new ChordSheet().difficulty(fret));
        }
        difficulty("[C][D][E]", 0, 3);
        difficulty(Checks.repeated("[C]", 40), 0, 40);
        difficulty(Checks.repeated("[F]", 40), 0, 160);
        difficulty(Checks.repeated("[F9]", 40), 7, 40 * 5 + 7);
        difficulty(Checks.repeated("[F][B]", 20), 0, 160 + 39);
    }

    private static void bothNotEasy() {
        difficulty("[F][B]", 0, 9);
        difficulty("[F][C]", 0, 5);
        difficulty("[C][F]", 0, 5);
        difficulty("[C][D]", 0, 2);
        difficulty("[F][C][B]", 0, 9);
        difficulty("[F]a/b/[B]", 0, 9);
        difficulty("[F][B][F]", 0, 14);
        // The last and the first are no pair.
        difficulty("[F][C][C][B]", 0, 10);
        // The shapes count, not the chords: F at fret 1 is E, C is B.
        difficulty("[F][B]", 1, 1 + 4 + 1);
        difficulty("[C][Bb]", 1, 4 + 1 + 1);
        difficulty("[C][C#]", 1, 4 + 1 + 1);
        difficulty("[C][G]", 1, 4 + 4 + 1 + 1);
        // Easy by its root alone is not easy.
        difficulty("[Cm][Gm]", 0, 9);
        difficulty("[Cm][G]", 0, 5);
    }

    private static void differentRoots() {
        difficulty("[F][F]", 0, 8);
        difficulty("[F][Fm]", 0, 8);
        difficulty("[F][E#]", 0, 8);
        difficulty("[F#][Gb]", 0, 8);
        difficulty("[F/C][F]", 0, 9);
        difficulty("[F][Bb/F]", 0, 10);
        difficulty("[F][F][B]", 0, 13);
        difficulty("[Cm][C]", 1, 9);
        difficulty("[B#m][C]", 1, 9);
        difficulty("[B][Cb]", 0, 8);
        // C as a root that is not easy is a root like others.
        difficulty("[Cm][F]", 0, 9);
        difficulty("[F][Cm]", 0, 9);
    }

    private static void fretOutOfRange() {
        for (int fret : new int[] {Integer.MIN_VALUE, -12, -1, 8, 12, 100, Integer.MAX_VALUE}) {
            CHECKS.changesNothing("fret " + fret, "throws.IllegalArgumentException",
                    () -> Checks.keyed("[F]a[B]", 3, true), sheet -> sheet.difficulty(fret));
        }
    }

    private static void best(String text, int due) {
        CHECKS.due("easiest fret of " + text, due, Checks.sheet(text).bestCapo());
    }

    private static void leastDifficulty() {
        best("[C]", 0);
        best("[Bb]", 1);
        best("[F][Bb][C]", 3);
        // F#, Em and C7 at fret 7: 6 + 6 + 7. At fret 0 it is 4 + 4 + 1 + 1, twice.
        best("[C#][Bm][G7][C#][Bm][G7]", 7);
        best(Checks.repeated("[Bm]", 40), 2);
        best(Checks.repeated("[Cm]", 40), 3);
        // Dm at fret 1; Am would be at fret 6.
        best(Checks.repeated("[D#m]", 40), 1);
        // All are easy at fret 7 alone: Em, Dm, C and G; Em and C7.
        best(Checks.repeated("[Bm][Am][G][D]", 10), 7);
        best(Checks.repeated("[Bm]", 9) + Checks.repeated("[G7]", 9), 7);
    }

    private static void equal(String text, int first, int second, int difficulty) {
        ChordSheet sheet = Checks.sheet(text);
        CHECKS.due(text + " at " + first, difficulty, sheet.difficulty(first));
        CHECKS.due(text + " at " + second, difficulty, sheet.difficulty(second));
        CHECKS.due("easiest fret of " + text, first, sheet.bestCapo());
    }

    private static void smallestFret() {
        best("", 0);
        CHECKS.due("of a new sheet", 0, new ChordSheet().bestCapo());
        // Shapes: Gm and Em; F with C, and D with A.
        equal("[Gm]", 0, 3, 4);
        equal("[F#][C#]", 1, 4, 6);
    }
}
