/** Promises 32 and 33: the difficulty of a capo position and the easiest one. */
public final class CapoTest {
    private static final Checks CHECKS = new Checks();
    private static final String[] ROOTS =
        {"C", "C#", "D", "Eb", "E", "F", "F#", "G", "G#", "A", "Bb", "B"};

    public static void main(String[] args) {
        easyShapes();
        basses();
        neighbours();
        capo();
        refused();
        bestCapo();
        CHECKS.end("CapoTest");
    }

    private static void easyShapes() {
        String[] qualities = {"", "m", "7", "m7", "maj7", "dim", "aug", "sus4", "6", "9"};
        String[] easy = {"C D E G A ", "A D E ", "A B C D E G ", "A D E ", "", "", "", "", "", ""};
        for (int q = 0; q < qualities.length; q++) {
            for (int pitch = 0; pitch < 12; pitch++) {
                boolean isEasy = easy[q].contains(ROOTS[pitch] + " ");
                int due = (isEasy ? 1 : 4) + (q > 3 ? 1 : 0);
                String chord = ROOTS[pitch] + qualities[q];
                CHECKS.due("difficulty of " + chord, due, Checks.chord(chord).difficulty(0));
                for (int fret = 1; fret <= 7; fret++) {
                    String raised = ROOTS[(pitch + fret) % 12] + qualities[q];
                    CHECKS.due("difficulty of " + raised + " at " + fret, due + fret,
                            Checks.chord(raised).difficulty(fret));
                }
            }
        }
    }

    private static void difficulty(String text, int fret, int due) {
        CHECKS.due("difficulty of " + text + " at " + fret, due,
                Checks.sheet(text).difficulty(fret));
    }

    private static void basses() {
        difficulty("[C/G]", 0, 2);
        difficulty("[C/C]", 0, 1);
        difficulty("[C/B#]", 0, 1);
        difficulty("[Fmaj7/E]", 0, 6);
        difficulty("[Fm/G#]", 0, 5);
        difficulty("[C/G][D/F#]", 0, 4);
    }

    private static void neighbours() {
        difficulty("[F][Bb]", 0, 9);
        difficulty("[F][F]", 0, 8);
        difficulty("[F][Fm]", 0, 8);
        difficulty("[F#][Gb]", 0, 8);
        difficulty("[F][C]", 0, 5);
        difficulty("[C][F]", 0, 5);
        difficulty("[C][D]", 0, 2);
        difficulty("[F][C][Bb]", 0, 9);
        difficulty("[F][Bb][Eb][Eb][F]", 0, 23);
        difficulty("[F]a/b/[Bb]", 0, 9);
        difficulty("[Cdim][C]", 0, 6);
        difficulty("[Cdim][Ddim]", 0, 11);
    }

    private static void capo() {
        difficulty("[F][Bb][C]", 0, 10);
        difficulty("[F][Bb][C]", 1, 7);
        difficulty("[F][Bb][C]", 3, 6);
        difficulty("[F][Bb][C]", 5, 11);
        difficulty("", 0, 0);
        difficulty("", 7, 7);
        ChordSheet sheet = Checks.sheet("[Bbm][Ebm]");
        CHECKS.due("difficulty", 9, sheet.difficulty(0));
        CHECKS.due("difficulty with a capo", 3, sheet.difficulty(1));
        CHECKS.due("the chords are left", "Bbm Ebm", Checks.names(sheet));
    }

    private static void refused() {
        ChordSheet sheet = Checks.sheet("[C]");
        for (int fret : new int[] {-1, 8, 12, Integer.MIN_VALUE, Integer.MAX_VALUE}) {
            CHECKS.refused("fret " + fret, Checks.ARGUMENT, sheet, () -> sheet.difficulty(fret));
        }
        sheet.bestCapo();
        CHECKS.due("asking is not kept", 0, sheet.undo());
    }

    private static void best(String text, int fret) {
        CHECKS.due("easiest fret of " + text, fret, Checks.sheet(text).bestCapo());
    }

    private static void bestCapo() {
        best("", 0);
        best("[C]", 0);
        best("[Bbm]", 1);
        best("[F][Bb][C]", 3);
        best("[C#]", 1);
        // Bb is 1 + 1 at fret 1 (A), 4 at fret 0.
        best("[Bb]", 1);
        // Fm is 1 + 1 at fret 1 (Em), 1 + 3 at fret 3 (Dm), 4 at fret 0.
        best("[Fm]", 1);
        // Gm is 1 + 3 at fret 3 (Em) and 4 at fret 0: the smaller one of equal frets.
        best("[Gm]", 0);
        best("[Gm][Cm]", 3);
        best("[Bm][F#m][Bm][F#m]", 2);
        // 6 at fret 1 (A#m, G7), 7 at fret 2 (Am, F#7), 9 at frets 0 and 4.
        best("[Bm][G#7]", 1);
        // F#, Em and C7 at fret 7: 6 + 6 + 7. At fret 0 it is 4 + 4 + 1 + 1, twice.
        best("[C#][Bm][G7][C#][Bm][G7]", 7);
        best(Checks.repeated("[Bm]", 4), 2);
        best(Checks.repeated("[Em][A]", 3), 0);
    }
}
