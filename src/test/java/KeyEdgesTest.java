/** The edges of notes, keys, transposing and respelling, promises 24 to 31. */
public final class KeyEdgesTest {
    private static final Checks CHECKS = new Checks();
    private static final String NO_ARGUMENT = "throws.IllegalArgumentException";
    private static final int MIN = Integer.MIN_VALUE;
    private static final int MAX = Integer.MAX_VALUE;
    // The pitch classes of the places from -9 to 14.
    private static final int[] PITCHES =
        {9, 4, 11, 6, 1, 8, 3, 10, 5, 0, 7, 2, 9, 4, 11, 6, 1, 8, 3, 10, 5, 0, 7, 2};

    public static void main(String[] args) {
        notes();
        keys();
        findingKeys();
        transposing();
        CHECKS.end("KeyEdgesTest");
    }

    private static void notes() {
        CHECKS.sentence("with up to two sharps (#) or up to two flats (b)",
                KeyEdgesTest::twoAccidentals);
        CHECKS.sentence("Its pitch class is 7 times its place, modulo 12 (from 0 to 11)",
                KeyEdgesTest::pitchClasses);
        CHECKS.sentence("The twelve notes of a key are those with the places from signature - 3 to"
                + " signature + 8.", KeyEdgesTest::outermostNotes);
        CHECKS.sentence("(Each pitch class has just one of them.)",
                KeyEdgesTest::oneNoteOfEachPitchClass);
        CHECKS.sentence("The scale of a key consists of the notes with the places from"
                + " signature - 1 to signature + 5.", KeyEdgesTest::outermostOfScale);
        CHECKS.sentence("if simple is on (initially on) and this note has two accidentals, it is"
                + " replaced by the note with the same pitch class and with no accidental",
                KeyEdgesTest::simple);
    }

    private static void keys() {
        CHECKS.sentence("A key has a tonic (a note with a place from -6 to 6 for major, -3 to 9"
                + " for minor)", KeyEdgesTest::outermostKeys);
        CHECKS.sentence("Its signature is the place of the tonic for major, and the place minus 3"
                + " for minor, from -6 to 6.", KeyEdgesTest::signatures);
        CHECKS.sentence("The key of the sheet is the one that is found when a text is read",
                KeyEdgesTest::keyOfText);
        CHECKS.sentence("it can be set otherwise", KeyEdgesTest::keyIsLeft);
        CHECKS.sentence("tonic, isMinor, signature: of the key of the sheet",
                KeyEdgesTest::keyOfSheet);
        CHECKS.sentence("setKey: Returns the signature of the key before.",
                KeyEdgesTest::setKeyAnswers);
        CHECKS.sentence("setKey: Throws IllegalArgumentException if place is out of its range",
                () -> placeOutOfRange("setKey", ChordSheet::setKey));
        CHECKS.sentence("score: Throws IllegalArgumentException if place is out of its range",
                () -> placeOutOfRange("score", ChordSheet::score));
    }

    private static void findingKeys() {
        CHECKS.sentence("2 if the pitch class of the root is in the scale, else 0",
                KeyEdgesTest::scoreOfScale);
        CHECKS.sentence("plus 1 if the root has the pitch class of the tonic",
                KeyEdgesTest::scoreOfTonic);
        CHECKS.sentence("and the chord is of the same kind (minor chords have the qualities 1, 3"
                + " and 5, all others are major)", KeyEdgesTest::scoreOfKind);
        CHECKS.sentence("plus 2 if this is the last chord of the sheet and its root has the pitch"
                + " class of the tonic", KeyEdgesTest::scoreOfLast);
        CHECKS.sentence("score: Returns the score.", KeyEdgesTest::leastAndGreatestScore);
        CHECKS.sentence("The key that is found has the greatest score",
                KeyEdgesTest::greatestScore);
        CHECKS.sentence("of several, major ones come before minor ones",
                KeyEdgesTest::majorBeforeMinor);
        CHECKS.sentence("then those with the smallest absolute value of the signature",
                KeyEdgesTest::smallestSignature);
        CHECKS.sentence("then those with a sharp signature (greater than 0) before those with a"
                + " flat one", KeyEdgesTest::sharpBeforeFlat);
        CHECKS.sentence("A sheet without chords has the key C major.",
                KeyEdgesTest::keyWithoutChords);
        CHECKS.sentence("findKey: Finds the key, which does not become the key of the sheet.",
                KeyEdgesTest::findKeyChangesNothing);
        CHECKS.sentence("findKey: Returns the place of its tonic, plus 100 if it is minor.",
                KeyEdgesTest::findKeyAnswers);
    }

    private static void transposing() {
        CHECKS.sentence("Transposing by a number of semitones from -11 to 11",
                KeyEdgesTest::allSemitones);
        CHECKS.sentence("the pitch classes of the tonic, of all roots and of all basses increase"
                + " by this number, modulo 12", KeyEdgesTest::wrapAround);
        CHECKS.sentence("The new key has the same mode", KeyEdgesTest::sameMode);
        CHECKS.sentence("of the keys with this tonic the one with the smallest absolute value of"
                + " the signature", KeyEdgesTest::smallestSignatureOfTonic);
        CHECKS.sentence("if there are two (6 and -6), the one chosen by the setting flats: -6 if"
                + " flats is on, 6 if it is off", KeyEdgesTest::sixSharpsOrFlats);
        CHECKS.sentence("flats .. (initially off)", KeyEdgesTest::flatsInitially);
        CHECKS.sentence("Then all notes are respelled.", KeyEdgesTest::allAreRespelled);
        CHECKS.sentence("transpose: Returns the signature of the new key.",
                KeyEdgesTest::transposeAnswers);
        CHECKS.sentence("transpose: Throws IllegalArgumentException if semitones is out of its"
                + " range", KeyEdgesTest::semitonesOutOfRange);
        CHECKS.sentence("respell: Respells all notes for the key of the sheet.",
                KeyEdgesTest::respellKeepsTheKey);
        CHECKS.sentence("respell: Returns how many notes (roots and basses) have changed.",
                KeyEdgesTest::respellAnswers);
    }

    /** One chord whose root has this place, which may have two accidentals. */
    private static ChordSheet rooted(int place) {
        ChordSheet sheet = Checks.sheet("[" + Checks.sameNote(place) + "]");
        if (place < -8 || place > 12) {
            sheet.setSimple(false);
            sheet.setKey(place < -8 ? -6 : 9, place > 12);
            sheet.respell();
        }
        CHECKS.due("the place", place, sheet.rootOf(0));
        return sheet;
    }

    private static void twoAccidentals() {
        String[] names = {"Bbb", "Fb", "Cb", "Gb", "Db", "Ab", "Eb", "Bb", "F", "C", "G", "D", "A",
            "E", "B", "F#", "C#", "G#", "D#", "A#", "E#", "B#", "F##", "C##"};
        for (int place = -9; place <= 14; place++) {
            CHECKS.due("name of " + place, names[place + 9], Checks.name(rooted(place), 0));
        }
        ChordSheet sheet = Checks.keyed("[C/A]", -6, false);
        sheet.setSimple(false);
        sheet.respell();
        CHECKS.due("a bass with two flats", "C/Bbb", Checks.name(sheet, 0));
    }

    private static void pitchClasses() {
        for (int place = -9; place <= 14; place++) {
            ChordSheet sheet = rooted(place);
            int firsts = 0;
            for (int tonic = -6; tonic <= 5; tonic++) {
                sheet.setKey(tonic, false);
                boolean same = PITCHES[place + 9] == PITCHES[tonic + 9];
                CHECKS.due(place + " on the tonic " + tonic, same, sheet.degree(0) == 1);
                firsts += sheet.degree(0) == 1 ? 1 : 0;
            }
            CHECKS.due("pitch classes of " + place, 1, firsts);
            for (int tonic = -6; tonic <= 6; tonic++) {
                boolean same = PITCHES[place + 9] == PITCHES[tonic + 9];
                CHECKS.due("score of " + place + " on the tonic " + tonic, same,
                        sheet.score(tonic, false) == 6);
                Checks.typed(sheet, Checks.note(tonic)).addChord(0, 0);
                CHECKS.due(place + " and " + tonic + " have all tones in common", same,
                        sheet.commonTones(0) == 3);
                sheet.removeChord(1);
            }
            // Only C, D, E, G and A are easy.
            CHECKS.due("difficulty of " + place, "141414414144".charAt(PITCHES[place + 9]) == '1'
                    ? 1 : 4, sheet.difficulty(0));
        }
    }

    private static void respelled(int signature, int place, int due) {
        for (int mode = 0; mode < 2; mode++) {
            String note = Checks.sameNote(place);
            ChordSheet sheet = Checks.keyed("[" + note + "/" + note + "]", signature + 3 * mode,
                    mode == 1);
            sheet.setSimple(false);
            sheet.respell();
            CHECKS.due(place + " respelled in " + signature, due, sheet.rootOf(0));
            CHECKS.due("bass " + place + " respelled in " + signature, due, sheet.bassOf(0));
        }
    }

    private static void outermostNotes() {
        for (int signature = -6; signature <= 6; signature++) {
            respelled(signature, signature - 4, signature + 8);
            respelled(signature, signature - 3, signature - 3);
            respelled(signature, signature - 2, signature - 2);
            respelled(signature, signature + 7, signature + 7);
            respelled(signature, signature + 8, signature + 8);
            respelled(signature, signature + 9, signature - 3);
        }
    }

    private static void oneNoteOfEachPitchClass() {
        for (int signature = -6; signature <= 6; signature++) {
            for (int place = signature - 3; place <= signature + 8; place++) {
                for (int other = place - 12; other <= place + 12; other += 12) {
                    if (other >= -9 && other <= 14) {
                        respelled(signature, other, place);
                    }
                }
            }
        }
    }

    private static void inScale(int signature, int place, boolean due) {
        for (int mode = 0; mode < 2; mode++) {
            ChordSheet sheet = Checks.keyed("[" + Checks.sameNote(place) + "]",
                    signature + 3 * mode, mode == 1);
            CHECKS.due(place + " in the scale of " + signature, due, sheet.degree(0) > 0);
            CHECKS.due("score of " + place + " in " + signature, due,
                    sheet.score(signature + 3 * mode, mode == 1) > 0);
        }
    }

    private static void outermostOfScale() {
        for (int signature = -6; signature <= 6; signature++) {
            inScale(signature, signature - 2, false);
            inScale(signature, signature - 1, true);
            inScale(signature, signature + 5, true);
            inScale(signature, signature + 6, false);
        }
    }

    private static void simplySpelled(int signature, int place, int due) {
        for (int mode = 0; mode < 2; mode++) {
            String note = Checks.sameNote(place);
            ChordSheet sheet = Checks.keyed("[" + note + "/" + note + "]", signature + 3 * mode,
                    mode == 1);
            sheet.respell();
            CHECKS.due(place + " simply in " + signature, due, sheet.rootOf(0));
            CHECKS.due("bass " + place + " simply in " + signature, due, sheet.bassOf(0));
        }
    }

    private static void simple() {
        simplySpelled(6, 14, 2);
        simplySpelled(6, 13, 1);
        simplySpelled(6, 12, 12);
        simplySpelled(6, 11, 11);
        simplySpelled(5, 13, 1);
        simplySpelled(5, 12, 12);
        simplySpelled(4, 12, 12);
        simplySpelled(4, 1, 1);
        simplySpelled(-6, -9, 3);
        simplySpelled(-6, -8, -8);
        simplySpelled(-6, 2, 2);
        simplySpelled(-5, -8, -8);
        ChordSheet sheet = Checks.sheet("[D/A]");
        sheet.setKey(6, false);
        sheet.setSimple(false);
        sheet.respell();
        CHECKS.due("off", "C##/A", Checks.names(sheet));
        sheet.setSimple(true);
        CHECKS.due("a setting alone changes nothing", "C##/A", Checks.names(sheet));
        sheet.respell();
        CHECKS.due("on", "D/A", Checks.names(sheet));
    }

    private static void outermostKeys() {
        for (int place : new int[] {-6, 6}) {
            ChordSheet sheet = Checks.keyed("", place, false);
            CHECKS.due("major " + place, String.valueOf(place), Checks.key(sheet));
        }
        for (int place : new int[] {-3, 9}) {
            ChordSheet sheet = Checks.keyed("", place, true);
            CHECKS.due("minor " + place, place + "m", Checks.key(sheet));
        }
        for (int place : new int[] {-7, 7}) {
            CHECKS.due("no major " + place, NO_ARGUMENT,
                    Checks.answer(() -> new ChordSheet().setKey(place, false)));
        }
        for (int place : new int[] {-4, 10}) {
            CHECKS.due("no minor " + place, NO_ARGUMENT,
                    Checks.answer(() -> new ChordSheet().setKey(place, true)));
        }
    }

    private static void signatures() {
        for (int signature = -6; signature <= 6; signature++) {
            ChordSheet major = Checks.keyed("", signature, false);
            CHECKS.due("signature of major " + signature, signature, major.signature());
            CHECKS.due("tonic of major " + signature, signature, major.tonic());
            ChordSheet minor = Checks.keyed("", signature + 3, true);
            CHECKS.due("signature of minor " + (signature + 3), signature, minor.signature());
            CHECKS.due("tonic of minor " + (signature + 3), signature + 3, minor.tonic());
        }
    }

    private static void keyOfText() {
        CHECKS.due("of C", "0", Checks.key(Checks.sheet("[C]")));
        CHECKS.due("of F#", "6", Checks.key(Checks.sheet("[F#]")));
        CHECKS.due("of Gb", "6", Checks.key(Checks.sheet("[Gb]")));
        CHECKS.due("of D#m", "9m", Checks.key(Checks.sheet("[D#m]")));
        CHECKS.due("of Ebm", "9m", Checks.key(Checks.sheet("[Ebm]")));
        CHECKS.due("of Fm", "-1m", Checks.key(Checks.sheet("[Fm]")));
        CHECKS.due("of Bbm", "-2m", Checks.key(Checks.sheet("[Bbm]")));
        CHECKS.due("of G#m", "8m", Checks.key(Checks.sheet("[G#m]")));
        CHECKS.due("of Db", "-5", Checks.key(Checks.sheet("[Db]")));
        ChordSheet sheet = Checks.keyed("[Am]", -6, false);
        Checks.readAnswer(sheet, "");
        CHECKS.due("of an empty text", "0", Checks.key(sheet));
        Checks.readAnswer(sheet, "[G]");
        CHECKS.due("of another text", "1", Checks.key(sheet));
    }

    /** Only read, setKey, transpose and undo change the key. */
    private static void keyIsLeft() {
        ChordSheet sheet = Checks.keyed("[Am]ab", -6, false);
        Checks.typed(sheet, "E").setChord(0);
        CHECKS.due("behind setChord", "-6", Checks.key(sheet));
        Checks.typed(sheet, "E").addChord(0, 2);
        CHECKS.due("behind addChord", "-6", Checks.key(sheet));
        sheet.moveChord(0, 2);
        CHECKS.due("behind moveChord", "-6", Checks.key(sheet));
        sheet.removeChord(0);
        sheet.removeChord(0);
        CHECKS.due("behind removeChord", "-6", Checks.key(sheet));
        sheet.respell();
        sheet.setFlats(true);
        sheet.setSimple(false);
        CHECKS.due("behind respell", "-6", Checks.key(sheet));
    }

    private static void keyOfSheet() {
        ChordSheet sheet = new ChordSheet();
        CHECKS.due("of a new sheet", "0", Checks.key(sheet));
        CHECKS.due("its signature", 0, sheet.signature());
        sheet.setKey(9, true);
        CHECKS.due("the sharpest minor", "9m", Checks.key(sheet));
        CHECKS.due("its signature", 6, sheet.signature());
        sheet.setKey(-3, true);
        CHECKS.due("the flattest minor", "-3m", Checks.key(sheet));
        CHECKS.due("its signature", -6, sheet.signature());
        sheet.setKey(-3, false);
        CHECKS.due("major with this tonic", "-3", Checks.key(sheet));
        CHECKS.due("its signature", -3, sheet.signature());
    }

    private static void setKeyAnswers() {
        ChordSheet sheet = new ChordSheet();
        CHECKS.due("of a new sheet", 0, sheet.setKey(-6, false));
        CHECKS.due("of the flattest major", -6, sheet.setKey(-3, true));
        CHECKS.due("of the flattest minor", -6, sheet.setKey(9, true));
        CHECKS.due("of the sharpest minor", 6, sheet.setKey(6, false));
        CHECKS.due("of the sharpest major", 6, sheet.setKey(6, false));
        CHECKS.due("a refused one", NO_ARGUMENT, Checks.answer(() -> sheet.setKey(7, false)));
        CHECKS.due("behind it", 6, sheet.setKey(0, false));
    }

    private interface KeyUse {
        long of(ChordSheet sheet, int place, boolean minor);
    }

    private static void placeOutOfRange(String name, KeyUse use) {
        for (int place : new int[] {MIN, MIN + 2, -100, -7, 7, 8, 9, 100, MAX}) {
            CHECKS.changesNothing(name + " of major " + place, NO_ARGUMENT,
                    () -> Checks.keyed("[Dm]a", 3, true), sheet -> use.of(sheet, place, false));
        }
        for (int place : new int[] {MIN, MIN + 2, -100, -6, -5, -4, 10, 100, MAX}) {
            CHECKS.changesNothing(name + " of minor " + place, NO_ARGUMENT,
                    () -> Checks.keyed("[Dm]a", 3, true), sheet -> use.of(sheet, place, true));
        }
        for (int signature : new int[] {-6, 6}) {
            ChordSheet sheet = new ChordSheet();
            CHECKS.due(name + " of major " + signature, "0",
                    Checks.answer(() -> use.of(sheet, signature, false)));
            CHECKS.due(name + " of minor " + (signature + 3), false, Checks.answer(
                    () -> use.of(sheet, signature + 3, true)).startsWith("throws."));
        }
    }

    private static void score(String text, int place, boolean minor, int due) {
        CHECKS.due("score of " + place + (minor ? "m" : "") + " for " + text, due,
                Checks.sheet(text).score(place, minor));
    }

    private static void scoreOfScale() {
        // F and B are the outermost notes of the scale of C, Bb and F# are next to them.
        score("[F]", 0, false, 2);
        score("[B]", 0, false, 2);
        score("[Bb]", 0, false, 0);
        score("[F#]", 0, false, 0);
        score("[Cb]", 0, false, 2);
        score("[E#]", 0, false, 2);
        score("[Dm]", 0, false, 2);
        score("[Bb/C]", 0, false, 0);
        score("[F][B][Bb][F#]", 0, false, 4);
    }

    private static void scoreOfTonic() {
        // The chord is not of the key's kind and not the last one.
        score("[Cm][Bb]", 0, false, 3);
        score("[B#m][Bb]", 0, false, 3);
        score("[Dm][Bb]", 0, false, 2);
        score("[A][Bb]", 3, true, 3);
        score("[Gm/C][Bb]", 0, false, 2);
    }

    private static void scoreOfKind() {
        String[] qualities = {"", "m", "7", "m7", "maj7", "dim", "aug", "sus4", "6", "9"};
        for (int q = 0; q < qualities.length; q++) {
            boolean minor = q == 1 || q == 3 || q == 5;
            score("[C" + qualities[q] + "][Bb]", 0, false, minor ? 3 : 4);
            score("[A" + qualities[q] + "][Bb]", 3, true, minor ? 4 : 3);
            score("[D" + qualities[q] + "][Bb]", 0, false, 2);
        }
    }

    private static void scoreOfLast() {
        score("[C]", 0, false, 6);
        score("[Cm]", 0, false, 5);
        score("[B#]", 0, false, 6);
        score("[C][Bb]", 0, false, 4);
        score("[C][C]", 0, false, 10);
        score("[C]/[C]/", 0, false, 10);
        score("[Bb]/[C]/a", 0, false, 6);
        ChordSheet sheet = Checks.sheet("[C]a[Bb]");
        sheet.moveChord(0, 1);
        CHECKS.due("moved to the end", 6, sheet.score(0, false));
        sheet.removeChord(1);
        CHECKS.due("removed from the end", 0, sheet.score(0, false));
    }

    private static void leastAndGreatestScore() {
        for (int signature = -6; signature <= 6; signature++) {
            score("no chords", signature, false, 0);
            score("no chords", signature + 3, true, 0);
        }
        score(Checks.repeated("[C]", 40), 0, false, 40 * 4 + 2);
        score(Checks.repeated("[C]", 40), 3, true, 40 * 2);
        score(Checks.repeated("[Am]", 40), 3, true, 40 * 4 + 2);
        score(Checks.repeated("[C]", 40), 2, false, 0);
    }

    private static void found(String text, int due) {
        CHECKS.due("the key of " + text, due, Checks.sheet(text).findKey());
        int place = due >= 97 ? due - 100 : due;
        CHECKS.due("the key that was read of " + text, place + (due >= 97 ? "m" : ""),
                Checks.key(Checks.sheet(text)));
    }

    private static void greatestScore() {
        found("[C]", 0);
        found("[Am]", 103);
        found("[C][Am]", 103);
        found("[Am][C]", 0);
        found("[C][C][Am]", 0);
        found("[B]", 5);
        found("[Bbm]", 98);
        found("[G#m]", 108);
        found("[Db]", -5);
        // One more than D, than C, than C and D, than A minor, than C minor.
        found("[Dm][Db]", -5);
        found("[Cm][B]", 5);
        found("[C][D]", 102);
        found("[Am][B]", 105);
        found("[C][Cm][Fm]", 99);
    }

    private static void majorBeforeMinor() {
        // C major and A minor have 8, B major has 6.
        found("[C][Am][B]", 0);
        // Db major has 6 and C minor too, whose signature is smaller.
        found("[Db][Cm]", -5);
        found("[Db][Dbm]", -5);
        found("[Dbm][Db]", -5);
        found("[D][Dm]", 2);
    }

    private static void smallestSignature() {
        found("[Db][C]", 0);
        found("[C][Db]", -5);
        found("[E][Eb]", -3);
        found("[Bb][A]", -2);
        found("[D][Db]", 2);
        found("[Eb][D]", 2);
        found("[F#][F]", -1);
        // Minor ones: -4 and 6, -1 and -3, -5 and 6.
        found("[Eb][B][F]", 99);
        found("[C][Ab][D]", 102);
        found("[Ebm][Ebm][Bbm]", 98);
    }

    private static void sharpBeforeFlat() {
        found("[E][F][G]", 1);
        found("[F][E][G]", 1);
        found("[Bb][B][Db]", 5);
        found("[F#]", 6);
        found("[Gb]", 6);
        found("[C][F#]", 6);
        found("[Dm][Dm][Em]", 104);
        found("[E][Ab][Bb]", 108);
        found("[D#m]", 109);
        found("[Ebm]", 109);
    }

    private static void keyWithoutChords() {
        found("", 0);
        found("no chords/at all", 0);
        ChordSheet sheet = Checks.keyed("[F#m]a", 9, true);
        sheet.removeChord(0);
        CHECKS.due("findKey when the chord is gone", 0, sheet.findKey());
        Checks.readAnswer(sheet, "a");
        CHECKS.due("the key of the sheet", "0", Checks.key(sheet));
        CHECKS.due("findKey of a new sheet", 0, new ChordSheet().findKey());
    }

    private static void findKeyChangesNothing() {
        CHECKS.changesNothing("findKey", "0", () -> Checks.keyed("[C]", 9, true),
                ChordSheet::findKey);
        CHECKS.changesNothing("findKey", "109", () -> Checks.keyed("[D#m]", -6, false),
                ChordSheet::findKey);
    }

    private static void findKeyAnswers() {
        String[] majors = {"Db", "Ab", "Eb", "Bb", "F", "C", "G", "D", "A", "E", "B", "F#"};
        String[] minors = {"Bb", "F", "C", "G", "D", "A", "E", "B", "F#", "C#", "G#", "D#"};
        for (int n = 0; n < 12; n++) {
            found("[" + majors[n] + "]", n - 5);
            found("[" + minors[n] + "m]", n - 5 + 103);
        }
    }

    private static void allSemitones() {
        int[] tonics = {0, -5, 2, -3, 4, -1, 6, 1, -4, 3, -2, 5};
        for (int by = -11; by <= 11; by++) {
            ChordSheet sheet = Checks.sheet("[C]");
            sheet.transpose(by);
            CHECKS.due("the tonic by " + by, tonics[(by + 12) % 12], sheet.tonic());
            CHECKS.due("the root by " + by, tonics[(by + 12) % 12], sheet.rootOf(0));
        }
        for (int by : new int[] {-12, 12}) {
            CHECKS.due("by " + by, NO_ARGUMENT,
                    Checks.answer(() -> new ChordSheet().transpose(by)));
        }
    }

    private static void transposed(String text, int by, String due) {
        ChordSheet sheet = Checks.keyed(text, 0, false);
        int back = sheet.transpose(by);
        CHECKS.due(text + " by " + by, due, back + " " + Checks.names(sheet));
    }

    private static void wrapAround() {
        transposed("[B/B]", 0, "0 B/B");
        transposed("[B/B]", 1, "-5 C/C");
        transposed("[C/C]", -1, "5 B/B");
        transposed("[C/B]", 11, "5 B/A#");
        transposed("[B/C]", -11, "-5 C/Db");
        transposed("[Cb/B#]", 1, "-5 C/Db");
        transposed("[G/E]", 5, "-1 C/A");
        transposed("[F/Ab]", -5, "1 C/D#");
        ChordSheet sheet = Checks.keyed("[E]", 5, false);
        CHECKS.due("the tonic B by 1", 0, sheet.transpose(1));
        CHECKS.due("the tonic C by -1", 5, sheet.transpose(-1));
        CHECKS.due("the root E again", "E", Checks.names(sheet));
        CHECKS.due("the tonic B by 11", -2, sheet.transpose(11));
        CHECKS.due("the tonic Bb by -11", 5, sheet.transpose(-11));
        ChordSheet minor = Checks.keyed("", 9, true);
        CHECKS.due("the tonic D# by 9", -3, minor.transpose(9));
        CHECKS.due("the tonic C", 0, minor.tonic());
        ChordSheet none = Checks.sheet("[C]");
        none.transpose(11);
        CHECKS.due("no bass", 100, none.bassOf(0));
    }

    private static void sameMode() {
        for (int by = -11; by <= 11; by++) {
            ChordSheet major = Checks.keyed("[Am]", 0, false);
            major.transpose(by);
            CHECKS.due("major by " + by, false, major.isMinor());
            ChordSheet minor = Checks.keyed("[C]", 3, true);
            minor.transpose(by);
            CHECKS.due("minor by " + by, true, minor.isMinor());
        }
    }

    private static void smallestSignatureOfTonic() {
        int[] signatures = {0, -5, 2, -3, 4, -1, 6, 1, -4, 3, -2, 5};
        for (int from = -6; from <= 6; from++) {
            for (int by = -11; by <= 11; by++) {
                int due = signatures[(PITCHES[from + 9] + by + 12) % 12];
                CHECKS.due("major " + from + " by " + by, due,
                        Checks.keyed("", from, false).transpose(by));
                CHECKS.due("minor " + (from + 3) + " by " + by, due,
                        Checks.keyed("", from + 3, true).transpose(by));
            }
        }
    }

    private static void sixOrMinusSix(int place, boolean minor, int by) {
        ChordSheet sharps = Checks.keyed("", place, minor);
        CHECKS.due("off, from " + place + " by " + by, 6, sharps.transpose(by));
        CHECKS.due("its tonic", minor ? 9 : 6, sharps.tonic());
        ChordSheet flats = Checks.keyed("", place, minor);
        flats.setFlats(true);
        CHECKS.due("on, from " + place + " by " + by, -6, flats.transpose(by));
        CHECKS.due("its tonic", minor ? -3 : -6, flats.tonic());
    }

    private static void sixSharpsOrFlats() {
        sixOrMinusSix(0, false, 6);
        sixOrMinusSix(0, false, -6);
        sixOrMinusSix(6, false, 0);
        sixOrMinusSix(-6, false, 0);
        sixOrMinusSix(-1, false, 1);
        sixOrMinusSix(5, false, -5);
        sixOrMinusSix(3, true, 6);
        sixOrMinusSix(9, true, 0);
        sixOrMinusSix(-3, true, 0);
        sixOrMinusSix(4, true, 11);
        ChordSheet sheet = Checks.keyed("", 0, false);
        sheet.setFlats(true);
        CHECKS.due("flats is for no other key: B", 5, sheet.transpose(-1));
        CHECKS.due("flats is for no other key: E", 4, sheet.transpose(5));
        CHECKS.due("flats is for no other key: G", 1, sheet.transpose(3));
        ChordSheet sharps = Checks.keyed("", 0, false);
        CHECKS.due("off is for no other key: Db", -5, sharps.transpose(1));
    }

    private static void flatsInitially() {
        CHECKS.due("transpose to six", 6, new ChordSheet().transpose(6));
        CHECKS.due("the setting", false, new ChordSheet().setFlats(true));
    }

    private static void allAreRespelled() {
        transposed("[B#/Fb][E#][Cb/A#]", 0, "0 C/E F B/Bb");
        transposed("[F#/Db][D#]", 0, "0 F#/C# Eb");
        ChordSheet sheet = Checks.keyed("[G/D]", 0, false);
        sheet.setSimple(false);
        sheet.transpose(6);
        CHECKS.due("in F#", "C#/G#", Checks.names(sheet));
        ChordSheet simple = Checks.keyed("[Db/Ab]", 0, false);
        simple.transpose(6);
        CHECKS.due("simple in F#", "G/D", Checks.names(simple));
        ChordSheet notSimple = Checks.keyed("[Db/Ab]", 0, false);
        notSimple.setSimple(false);
        notSimple.transpose(6);
        CHECKS.due("not simple in F#", "F##/C##", Checks.names(notSimple));
        notSimple.setFlats(true);
        notSimple.transpose(0);
        CHECKS.due("in Gb", "G/D", Checks.names(notSimple));
    }

    private static void transposeAnswers() {
        ChordSheet sheet = Checks.keyed("[C]", 3, true);
        CHECKS.due("minor by 0", 0, sheet.transpose(0));
        CHECKS.due("minor by 6", 6, sheet.transpose(6));
        CHECKS.due("minor by 1", 1, sheet.transpose(1));
        CHECKS.due("minor by -11", -4, Checks.keyed("[C]", 4, true).transpose(-11));
        CHECKS.due("a new sheet by 0", 0, new ChordSheet().transpose(0));
    }

    private static void semitonesOutOfRange() {
        for (int by : new int[] {MIN, -24, -13, -12, 12, 13, 24, MAX}) {
            CHECKS.changesNothing("transpose by " + by, NO_ARGUMENT,
                    () -> Checks.keyed("[B#]a", 9, true), sheet -> sheet.transpose(by));
        }
    }

    private static void respellKeepsTheKey() {
        ChordSheet sheet = Checks.keyed("[C#/Gb]a[A#m]", -6, false);
        sheet.respell();
        CHECKS.due("in Gb", "Db/Gb Bbm", Checks.names(sheet));
        CHECKS.due("the key", "-6", Checks.key(sheet));
        sheet.setKey(9, true);
        sheet.setFlats(true);
        sheet.respell();
        CHECKS.due("in D# minor", "C#/F# A#m", Checks.names(sheet));
        CHECKS.due("the key", "9m", Checks.key(sheet));
    }

    private static void respellAnswers() {
        CHECKS.due("none", 0, new ChordSheet().respell());
        CHECKS.due("none of a right one", 0, Checks.keyed("[C/E]", 0, false).respell());
        CHECKS.due("a root", 1, Checks.keyed("[B#/E]", 0, false).respell());
        CHECKS.due("a bass", 1, Checks.keyed("[C/Fb]", 0, false).respell());
        CHECKS.due("both", 2, Checks.keyed("[B#/Fb]", 0, false).respell());
        CHECKS.due("a root without a bass", 1, Checks.keyed("[B#]", 0, false).respell());
        CHECKS.due("simple leaves it", 0, Checks.keyed("[G/D]", 6, false).respell());
        ChordSheet sheet = Checks.keyed("", 0, false);
        for (int n = 0; n < 40; n++) {
            Checks.typed(sheet, "B#/Fb").addChord(0, 0);
        }
        CHECKS.due("all that can be", 80, sheet.respell());
        CHECKS.due("none again", 0, sheet.respell());
    }
}
