/**
 * The edges that the document names in the promises 1 to 13, each behind its sentence: the last values that are
 * allowed, none, and as many as there may be. What is refused beyond them stands in RefusedCallsTest.
 */
final class TextsAndTunesEdgesTest {
    private static final int NONE = Hymnwright.NONE;

    public static void main(String[] args) {
        nothingAtFirst();
        objectsOfTheirOwn();
        twelveTexts();
        eightLines();
        syllables();
        twelveTunes();
        eightPhrases();
        notes();
        withoutLines();
        onceAtTheEdges();
        twiceAtTheEdges();
        everyRowCounts();
        noClashesAndAllClashes();
        everySyllableClashes();
        everyLineMeetsItsPhrase();
        phrasesBeginAnew();
        noBestTune();
        bestOfTwelve();
        alikeOneToTwelve();
        metresNoneToTwelve();
        metresUnlikeByOne();
        allowedOneByOne();
        choirsWithBothEnds();
        choirsAtTheEdges();
        Checks.finish();
    }

    private static int addText(Hymnwright x, int... lengthsAndMarks) {
        int text = x.text(1600, 1);
        for (int i = 0; i < lengthsAndMarks.length; i += 2) {
            x.line(text, lengthsAndMarks[i], lengthsAndMarks[i + 1]);
        }
        return text;
    }

    private static int addTune(Hymnwright x, int... lengthsAndMarks) {
        int tune = x.tune(1600, 0, 10);
        for (int i = 0; i < lengthsAndMarks.length; i += 2) {
            x.phrase(tune, lengthsAndMarks[i], lengthsAndMarks[i + 1]);
        }
        return tune;
    }

    /** As many rows of one length, of which only one, if any, has all its places marked. */
    private static int[] rows(int many, int length, int marked) {
        int[] rows = new int[2 * many];
        for (int i = 0; i < many; i++) {
            rows[2 * i] = length;
            rows[2 * i + 1] = i == marked ? (1 << length) - 1 : 0;
        }
        return rows;
    }

    /** Promise 1: "No texts, tunes, feasts and services." */
    private static void nothingAtFirst() {
        Hymnwright x = new Hymnwright();
        Checks.due("1 no metre", 0, x.metres());
        Checks.due("1 the first text", 0, x.text(1700, 0));
        Checks.due("1 the first tune", 0, x.tune(1700, 0, 0));
        Checks.due("1 the first feast", 0, x.feast(1, false, 1, 1));
        Checks.index("1 no second text", () -> x.best(1));
        Checks.index("1 no second tune", () -> x.alike(1));
        Checks.index("1 no second feast", () -> x.when(1, 2023));
        Checks.index("1 no service", () -> x.service(0, 0));
        Checks.due("1 the moving feasts are feasts, too", 0, new Hymnwright().moving(1, false, 0));
    }

    /** Each object has what was told to it alone. */
    private static void objectsOfTheirOwn() {
        Hymnwright told = new Hymnwright();
        addText(told, 4, 0);
        addTune(told, 4, 0);
        told.feast(5, false, 1, 1);
        told.sundays(7);
        told.reading(Hymnwright.SUNDAY, 1, 0);
        told.sing(2023, 1, 8);
        Hymnwright x = new Hymnwright();
        Checks.due("1 no tune of another object", 0, x.metres());
        Checks.index("1 no text of another object", () -> x.sung(0));
        Checks.index("1 no feast of another object", () -> x.when(0, 2023));
        Checks.index("1 no service of another object", () -> x.service(0, 0));
        Checks.due("1 no reading of another object", NONE, x.theme(2023, 1, 8));
        Checks.due("1 no rank of another object", 0, x.sundays(0));
        Checks.due("1 a day without another object's feast", NONE, x.kept(2024, 1, 1));
    }

    /** "Texts are numbered from 0, at most 12", of the years 1500 to 2399, with the sets 0 to 65535. */
    private static void twelveTexts() {
        Hymnwright x = new Hymnwright();
        int[] died = {1500, 2399, 1501, 2398};
        int[] themes = {0, 65535, 1, 65534, 32768};
        for (int i = 0; i < 12; i++) {
            Checks.due("2 text " + i, i, x.text(died[i % 4], themes[i % 5]));
            Checks.due("2 without services " + i, 0, x.sung(i));
            int behind = i + 1;
            Checks.index("2 none behind " + i, () -> x.sung(behind));
        }
        Checks.state("2 a thirteenth", () -> x.text(1700, 0));
    }

    /** "lines, 0 at first and at most 8": of each text. */
    private static void eightLines() {
        Hymnwright x = new Hymnwright();
        for (int text = 0; text < 12; text++) {
            x.text(1700, 0);
        }
        for (int lines = 1; lines <= 8; lines++) {
            for (int text = 0; text < 12; text++) {
                Checks.due("3 lines of text " + text, lines, x.line(text, 1, 0));
            }
        }
        for (int text = 0; text < 12; text++) {
            int full = text;
            Checks.state("3 a ninth line of text " + text, () -> x.line(full, 1, 0));
        }
    }

    /** "1 to 12: how many syllables", "0 to 2 to the power of how many, less 1". */
    private static void syllables() {
        Hymnwright x = new Hymnwright();
        for (int text = 0; text < 6; text++) {
            x.text(1700, 0);
        }
        for (int many = 1; many <= 12; many++) {
            int syllables = many;
            int text = (many - 1) / 2;
            int lines = (many - 1) % 2 * 2;
            Checks.due("3 none stressed of " + many, lines + 1, x.line(text, many, 0));
            Checks.due("3 all stressed of " + many, lines + 2, x.line(text, many, (1 << many) - 1));
            Checks.range("3 one more of " + many, () -> x.line(text, syllables, 1 << syllables));
            Checks.range("3 below none of " + many, () -> x.line(text, syllables, -1));
        }
    }

    /** "Tunes are numbered from 0, at most 12", of the years 1500 to 2399, with notes "0 to 40", "low to 40". */
    private static void twelveTunes() {
        Hymnwright x = new Hymnwright();
        int[][] tunes = {{1500, 0, 0}, {2399, 40, 40}, {1501, 0, 40}, {2398, 39, 40}, {1700, 0, 1}, {1700, 20, 20}};
        for (int i = 0; i < 12; i++) {
            int[] told = tunes[i % 6];
            Checks.due("4 tune " + i, i, x.tune(told[0], told[1], told[2]));
            Checks.due("4 all without phrases " + i, i + 1, x.alike(i));
            int behind = i + 1;
            Checks.index("4 none behind " + i, () -> x.alike(behind));
        }
        Checks.state("4 a thirteenth", () -> x.tune(1700, 0, 0));
        for (int low = 1; low <= 40; low++) {
            int above = low;
            Hymnwright y = new Hymnwright();
            Checks.range("4 high just below low " + low, () -> y.tune(1700, above, above - 1));
            Checks.due("4 high is low " + low, 0, y.tune(1700, low, low));
        }
    }

    /** "phrases, 0 at first and at most 8": of each tune. */
    private static void eightPhrases() {
        Hymnwright x = new Hymnwright();
        for (int tune = 0; tune < 12; tune++) {
            x.tune(1700, 0, 0);
        }
        for (int phrases = 1; phrases <= 8; phrases++) {
            for (int tune = 0; tune < 12; tune++) {
                Checks.due("5 phrases of tune " + tune, phrases, x.phrase(tune, 1, 1));
            }
        }
        for (int tune = 0; tune < 12; tune++) {
            int full = tune;
            Checks.state("5 a ninth phrase of tune " + tune, () -> x.phrase(full, 1, 0));
        }
    }

    /** "1 to 12: how many notes", "0 to 2 to the power of how many, less 1". */
    private static void notes() {
        Hymnwright x = new Hymnwright();
        for (int tune = 0; tune < 6; tune++) {
            x.tune(1700, 0, 0);
        }
        for (int many = 1; many <= 12; many++) {
            int notes = many;
            int tune = (many - 1) / 2;
            int phrases = (many - 1) % 2 * 2;
            Checks.due("5 none strong of " + many, phrases + 1, x.phrase(tune, many, 0));
            Checks.due("5 all strong of " + many, phrases + 2, x.phrase(tune, many, (1 << many) - 1));
            Checks.range("5 one more of " + many, () -> x.phrase(tune, notes, 1 << notes));
            Checks.range("5 below none of " + many, () -> x.phrase(tune, notes, -1));
        }
    }

    /** "with one line at least", "if the tune has a phrase at least". */
    private static void withoutLines() {
        Hymnwright x = new Hymnwright();
        int none = addText(x);
        int one = addText(x, 5, 0);
        int silent = addTune(x);
        int short1 = addTune(x, 5, 0);
        Checks.due("6 no line, no phrase", 0, x.fits(none, silent));
        Checks.due("6 no line, a phrase", 0, x.fits(none, short1));
        Checks.due("6 a line, no phrase", 0, x.fits(one, silent));
        Checks.due("6 a line, a phrase", 1, x.fits(one, short1));
        Checks.state("7 no line, no phrase", () -> x.clashes(none, silent));
        Checks.state("7 no line, a phrase", () -> x.clashes(none, short1));
        Checks.state("7 a line, no phrase", () -> x.clashes(one, silent));
        Checks.due("8 no tune for no line", NONE, x.best(none));
        Checks.due("8 the tune for a line", short1, x.best(one));
        x.line(none, 5, 0);
        x.line(none, 5, 0);
        Checks.due("6 two lines, no phrase", 0, x.fits(none, silent));
        Checks.due("6 two lines, a phrase", 2, x.fits(none, short1));
    }

    /** "It fits a text once, if both have the same metre": one row, eight rows, and one more on either side. */
    private static void onceAtTheEdges() {
        for (int many = 1; many <= 8; many++) {
            Hymnwright x = new Hymnwright();
            addText(x, rows(many, 12, 0));
            addTune(x, rows(many, 12, 1));
            Checks.due("6 once of " + many, 1, x.fits(0, 0));
            if (many > 1) {
                addTune(x, rows(many - 1, 12, 0));
                Checks.due("6 a phrase less than " + many, many == 2 ? 2 : 0, x.fits(0, 1));
            }
            if (many < 8) {
                x.phrase(0, 12, 0);
                Checks.due("6 a phrase more than " + many, 0, x.fits(0, 0));
                x.line(0, 12, 0);
                Checks.due("6 a line more, too " + many, 1, x.fits(0, 0));
            }
        }
    }

    /** "the text has twice as many lines as the tune has phrases": 2 to 8 lines, and one more on either side. */
    private static void twiceAtTheEdges() {
        for (int many = 1; many <= 4; many++) {
            Hymnwright x = new Hymnwright();
            addText(x, rows(2 * many, 1, 0));
            addTune(x, rows(many, 1, 0));
            addText(x, rows(many, 1, 0));
            addTune(x, rows(2 * many, 1, 0));
            Checks.due("6 twice of " + many, 2, x.fits(0, 0));
            Checks.due("6 not half of a tune of " + 2 * many, 0, x.fits(1, 1));
            addText(x, rows(2 * many - 1, 1, 0));
            Checks.due("6 a line less than twice " + many, many == 1 ? 1 : 0, x.fits(2, 0));
            if (many < 4) {
                x.line(0, 1, 0);
                Checks.due("6 a line more than twice " + many, 0, x.fits(0, 0));
                x.phrase(0, 1, 0);
                Checks.due("6 a phrase more, a line less than twice " + many, 0, x.fits(0, 0));
                x.line(0, 1, 0);
                Checks.due("6 twice again " + many, 2, x.fits(0, 0));
            }
        }
    }

    /** "in their order": each of the eight rows counts, by one syllable more or less. */
    private static void everyRowCounts() {
        for (int odd = 0; odd < 8; odd++) {
            Hymnwright x = new Hymnwright();
            int[] rows = rows(8, 6, -1);
            addTune(x, rows);
            addTune(x, rows(4, 6, -1));
            for (int length : new int[] {5, 6, 7}) {
                rows[2 * odd] = length;
                int text = addText(x, rows);
                Checks.due("6 line " + odd + " of " + length, length == 6 ? 1 : 0, x.fits(text, 0));
                Checks.due("6 line " + odd + " of " + length + ", in halves", length == 6 ? 2 : 0, x.fits(text, 1));
            }
        }
    }

    /** "how many of all its syllables": none, and as many as there may be. */
    private static void noClashesAndAllClashes() {
        Hymnwright x = new Hymnwright();
        int[] all = {12, 4095, 12, 4095, 12, 4095, 12, 4095, 12, 4095, 12, 4095, 12, 4095, 12, 4095};
        addText(x, rows(8, 12, -1));
        addText(x, all);
        addTune(x, rows(8, 12, -1));
        addTune(x, all);
        addTune(x, 12, 4095, 12, 4095, 12, 4095, 12, 4095);
        addText(x, 1, 1);
        addTune(x, 1, 1);
        addTune(x, 1, 0);
        Checks.due("7 neither stressed nor strong", 0, x.clashes(0, 0));
        Checks.due("7 not stressed on strong ones", 96, x.clashes(0, 1));
        Checks.due("7 stressed on those not strong", 96, x.clashes(1, 0));
        Checks.due("7 stressed on strong ones", 0, x.clashes(1, 1));
        Checks.due("7 all of them, sung twice", 96, x.clashes(0, 2));
        Checks.due("7 none of them, sung twice", 0, x.clashes(1, 2));
        Checks.due("7 none of one syllable", 0, x.clashes(2, 3));
        Checks.due("7 one of one syllable", 1, x.clashes(2, 4));
    }

    /** "syllables and notes are numbered from 0": the places 0 to 11 meet each its own. */
    private static void everySyllableClashes() {
        Hymnwright x = new Hymnwright();
        for (int place = 0; place < 12; place++) {
            addText(x, 12, 1 << place);
            addTune(x, 12, 1 << place);
        }
        for (int syllable = 0; syllable < 12; syllable++) {
            for (int note = 0; note < 12; note++) {
                Checks.due("7 syllable " + syllable + " on note " + note, syllable == note ? 0 : 2,
                        x.clashes(syllable, note));
            }
        }
    }

    /** The lines 0 to 7 meet each the phrase of its number. */
    private static void everyLineMeetsItsPhrase() {
        Hymnwright x = new Hymnwright();
        for (int row = 0; row < 8; row++) {
            addText(x, rows(8, 3, row));
            addTune(x, rows(8, 3, row));
        }
        for (int line = 0; line < 8; line++) {
            for (int phrase = 0; phrase < 8; phrase++) {
                Checks.due("7 line " + line + " to phrase " + phrase, line == phrase ? 0 : 6, x.clashes(line, phrase));
            }
        }
    }

    /** "Sung twice the phrases begin anew with the second half": line 4 of 8 meets phrase 0, line 7 phrase 3. */
    private static void phrasesBeginAnew() {
        Hymnwright x = new Hymnwright();
        for (int line = 0; line < 8; line++) {
            addText(x, rows(8, 3, line));
        }
        for (int phrase = 0; phrase < 4; phrase++) {
            addTune(x, rows(4, 3, phrase));
        }
        for (int line = 0; line < 8; line++) {
            for (int phrase = 0; phrase < 4; phrase++) {
                Checks.due("7 line " + line + " to phrase " + phrase + ", twice", line % 4 == phrase ? 3 : 9,
                        x.clashes(line, phrase));
            }
        }
    }

    /** "NONE if none fits it": without tunes, and with as many as there may be. */
    private static void noBestTune() {
        Hymnwright x = new Hymnwright();
        addText(x, 4, 0);
        Checks.due("8 no tune", NONE, x.best(0));
        for (int i = 0; i < 12; i++) {
            addTune(x, 5, 0);
            Checks.due("8 none fits of " + (i + 1), NONE, x.best(0));
        }
    }

    /** "that with the fewest clashes, of several the one with the lowest number": of twelve, each may be it. */
    private static void bestOfTwelve() {
        for (int best = 0; best < 12; best++) {
            Hymnwright x = new Hymnwright();
            addText(x, 12, 0);
            addText(x, 11, 0);
            for (int i = 0; i < 12; i++) {
                addTune(x, 12, i == best ? 0b011 : 0b111);
            }
            Checks.due("8 fewest by one, of number " + best, best, x.best(0));
            Checks.due("8 none for the other text", NONE, x.best(1));
        }
        Hymnwright x = new Hymnwright();
        addText(x, 12, 0);
        for (int i = 0; i < 12; i++) {
            addTune(x, i < 5 ? 11 : 12, 1);
        }
        Checks.due("8 the lowest number of those that fit", 5, x.best(0));
        Hymnwright y = new Hymnwright();
        addText(y, 12, 0, 12, 0);
        addTune(y, 12, 1);
        addTune(y, 12, 3, 12, 0);
        Checks.due("8 the lowest number, once or twice", 0, y.best(0));
        addTune(y, 12, 1, 12, 0);
        Checks.due("8 fewer clashes once than twice", 2, y.best(0));
    }

    /** "that one with them": one of one, twelve of twelve. */
    private static void alikeOneToTwelve() {
        Hymnwright x = new Hymnwright();
        for (int i = 0; i < 12; i++) {
            addTune(x, 3, i % 8, 4, 0);
            for (int tune = 0; tune <= i; tune++) {
                Checks.due("9 tune " + tune + " of " + (i + 1), i + 1, x.alike(tune));
            }
        }
        Hymnwright y = new Hymnwright();
        for (int i = 0; i < 12; i++) {
            addTune(y, i + 1, 0);
        }
        for (int i = 0; i < 12; i++) {
            Checks.due("9 alone of twelve " + i, 1, y.alike(i));
        }
    }

    /** "how many unlike metres the tunes have; tunes without phrases have one metre, too": 0 to 12. */
    private static void metresNoneToTwelve() {
        Hymnwright x = new Hymnwright();
        Checks.due("10 no tunes", 0, x.metres());
        for (int i = 0; i < 12; i++) {
            addTune(x);
            Checks.due("10 all without phrases, " + (i + 1), 1, x.metres());
        }
        for (int i = 0; i < 12; i++) {
            x.phrase(i, i + 1, 0);
            Checks.due("10 with a phrase each, " + (i + 1), Math.min(i + 2, 12), x.metres());
        }
        Hymnwright y = new Hymnwright();
        for (int i = 0; i < 12; i++) {
            addTune(y, 7, 1);
            Checks.due("10 all alike, " + (i + 1), 1, y.metres());
        }
    }

    /** Metres that are unlike in one note of one phrase, or in one phrase more. */
    private static void metresUnlikeByOne() {
        for (int odd = 0; odd < 8; odd++) {
            Hymnwright x = new Hymnwright();
            int[] rows = rows(8, 6, -1);
            addTune(x, rows);
            rows[2 * odd]++;
            addTune(x, rows);
            Checks.due("10 unlike in phrase " + odd, 2, x.metres());
            Checks.due("9 unlike in phrase " + odd, 1, x.alike(0));
        }
        Hymnwright x = new Hymnwright();
        for (int many = 0; many <= 8; many++) {
            addTune(x, rows(many, 6, -1));
            Checks.due("10 a phrase more, " + many, many + 1, x.metres());
            Checks.due("9 a phrase more, " + many, 1, x.alike(many));
        }
    }

    /** "Returns whether it was": the first and the last of twelve, each by itself. */
    private static void allowedOneByOne() {
        Hymnwright x = new Hymnwright();
        for (int i = 0; i < 12; i++) {
            x.text(2399, 0);
            x.tune(2399, 0, 0);
        }
        for (int i = 0; i < 12; i++) {
            Checks.due("11 not at first " + i, false, x.allowText(i, false));
            Checks.due("11 still not " + i, false, x.allowText(i, true));
            Checks.due("12 not at first " + i, false, x.allowTune(i, false));
            Checks.due("12 still not " + i, false, x.allowTune(i, true));
        }
        for (int i = 0; i < 12; i++) {
            Checks.due("11 it was " + i, true, x.allowText(i, true));
            Checks.due("11 it still was " + i, true, x.allowText(i, false));
            Checks.due("11 not any more " + i, false, x.allowText(i, false));
            Checks.due("12 it was " + i, true, x.allowTune(i, true));
            Checks.due("12 it still was " + i, true, x.allowTune(i, false));
            Checks.due("12 not any more " + i, false, x.allowTune(i, false));
        }
    }

    /** "its lowest and its highest one lie there, with both ends: by the fewest". */
    private static void choirsWithBothEnds() {
        Hymnwright x = new Hymnwright();
        x.tune(1700, 10, 15);
        for (int low = 0; low <= 35; low++) {
            Checks.due("13 just so from " + low, low - 10, x.shift(0, low, low + 5));
            int narrow = low;
            Checks.due("13 a note too narrow from " + low, NONE, x.shift(0, narrow, narrow + 4));
        }
        for (int low = 0; low <= 34; low++) {
            int due = low < 9 ? low - 9 : low > 10 ? low - 10 : 0;
            Checks.due("13 with a note of room from " + low, due, x.shift(0, low, low + 6));
        }
    }

    /** The notes 0 and 40: the widest and the narrowest tunes and choirs. */
    private static void choirsAtTheEdges() {
        Hymnwright x = new Hymnwright();
        x.tune(1700, 0, 40);
        x.tune(1700, 0, 0);
        x.tune(1700, 40, 40);
        x.tune(1700, 0, 39);
        x.tune(1700, 1, 40);
        Checks.due("13 the widest", 0, x.shift(0, 0, 40));
        Checks.due("13 the widest, too low", NONE, x.shift(0, 0, 39));
        Checks.due("13 the widest, too high", NONE, x.shift(0, 1, 40));
        Checks.due("13 one note at 0", 0, x.shift(1, 0, 0));
        Checks.due("13 one note, the most higher", 40, x.shift(1, 40, 40));
        Checks.due("13 one note at 40", 0, x.shift(2, 40, 40));
        Checks.due("13 one note, the most lower", -40, x.shift(2, 0, 0));
        Checks.due("13 one note has room", 0, x.shift(2, 0, 40));
        Checks.due("13 one higher", 1, x.shift(3, 1, 40));
        Checks.due("13 one lower", -1, x.shift(4, 0, 39));
        Checks.due("13 stays below", 0, x.shift(3, 0, 40));
        Checks.due("13 stays above", 0, x.shift(4, 0, 40));
    }
}
