/** Promises 1 to 13. */
final class TextsAndTunesTest {
    private static final int MIN = Integer.MIN_VALUE;
    private static final int MAX = Integer.MAX_VALUE;

    public static void main(String[] args) {
        newObject();
        texts();
        lines();
        tunes();
        phrases();
        fitting();
        fittingTwice();
        clashing();
        bestTune();
        alikeAndMetres();
        allowing();
        shifting();
        Checks.finish();
    }

    private static Hymnwright withText(int... lengthsAndMarks) {
        Hymnwright x = new Hymnwright();
        addText(x, lengthsAndMarks);
        return x;
    }

    private static int addText(Hymnwright x, int... lengthsAndMarks) {
        int text = x.text(1600, 1);
        for (int i = 0; i < lengthsAndMarks.length; i += 2) {
            x.line(text, lengthsAndMarks[i], lengthsAndMarks[i + 1]);
        }
        return text;
    }

    private static int addTune(Hymnwright x, int... lengthsAndMarks) {
        int tune = x.tune(1600, 0, 10);
        for (int i = 0; i < lengthsAndMarks.length; i += 2) {
            x.phrase(tune, lengthsAndMarks[i], lengthsAndMarks[i + 1]);
        }
        return tune;
    }

    private static void newObject() {
        Hymnwright x = new Hymnwright();
        Checks.index("1 no text", () -> x.sung(0));
        Checks.index("1 no tune", () -> x.alike(0));
        Checks.index("1 no feast", () -> x.when(0, 2000));
        Checks.index("1 no service", () -> x.service(0, 0));
        Checks.due("1 no metre", 0, x.metres());
        Checks.due("1 nothing kept", Hymnwright.NONE, x.kept(2000, 1, 1));
        Checks.due("1 a Sunday", Hymnwright.SUNDAY, x.kept(2000, 1, 2));
        Checks.due("1 rank of Sundays", 0, x.sundays(0));
        for (int cycle = 0; cycle < 3; cycle++) {
            Checks.due("1 no reading", Hymnwright.NONE, x.reading(Hymnwright.SUNDAY, cycle, Hymnwright.NONE));
        }
        new Hymnwright().text(1700, 0);
        Checks.index("1 objects share no texts", () -> x.sung(0));
    }

    private static void texts() {
        Hymnwright x = new Hymnwright();
        for (int died : new int[] {1499, 2400, 0, -1, MIN, MAX}) {
            Checks.range("2 died " + died, () -> x.text(died, 0));
        }
        for (int themes : new int[] {-1, 65536, MIN, MAX}) {
            Checks.range("2 themes " + themes, () -> x.text(1700, themes));
        }
        Checks.due("2 first", 0, x.text(1500, 0));
        Checks.due("2 second", 1, x.text(2399, 65535));
        Checks.due("2 without lines", 1, x.line(0, 1, 0));
        Checks.due("2 without lines, too", 1, x.line(1, 1, 0));
        for (int i = 2; i < 12; i++) {
            Checks.due("2 next", i, x.text(1700, 0));
        }
        Checks.state("2 a thirteenth", () -> x.text(1700, 0));
        Checks.range("2 died first", () -> x.text(1499, 0));
        Checks.range("2 themes first", () -> x.text(1700, 65536));
        Checks.index("2 no thirteenth", () -> x.sung(12));
        Checks.due("2 the twelfth", 0, x.sung(11));
    }

    private static void lines() {
        Hymnwright x = withText();
        for (int text : new int[] {-1, 1, 12, MIN, MAX}) {
            Checks.index("3 text " + text, () -> x.line(text, 1, 0));
            Checks.index("3 text first " + text, () -> x.line(text, 0, 0));
        }
        for (int many : new int[] {0, -1, 13, 32, 33, MIN, MAX}) {
            Checks.range("3 many " + many, () -> x.line(0, many, 0));
        }
        for (int many = 1; many <= 12; many++) {
            int syllables = many;
            Checks.range("3 stressed above " + many, () -> x.line(0, syllables, 1 << syllables));
        }
        Checks.range("3 stressed below 0", () -> x.line(0, 5, -1));
        Checks.range("3 stressed MAX", () -> x.line(0, 12, MAX));
        Checks.range("3 stressed MIN", () -> x.line(0, 12, MIN));
        for (int i = 1; i <= 8; i++) {
            int many = i == 8 ? 12 : i;
            Checks.due("3 lines", i, x.line(0, many, (1 << many) - 1));
        }
        Checks.state("3 a ninth", () -> x.line(0, 1, 0));
        Checks.range("3 many ahead of state", () -> x.line(0, 13, 0));
        Checks.range("3 stressed ahead of state", () -> x.line(0, 1, 2));
        Checks.index("3 text ahead of all", () -> x.line(1, 13, 0));
        x.text(1700, 0);
        Checks.due("3 of its own text", 1, x.line(1, 1, 0));
    }

    private static void tunes() {
        Hymnwright x = new Hymnwright();
        for (int died : new int[] {1499, 2400, MIN, MAX}) {
            Checks.range("4 died " + died, () -> x.tune(died, 0, 0));
        }
        for (int note : new int[] {-1, 41, MIN, MAX}) {
            Checks.range("4 low " + note, () -> x.tune(1700, note, 40));
            Checks.range("4 high " + note, () -> x.tune(1700, 0, note));
        }
        Checks.range("4 low above high", () -> x.tune(1700, 7, 6));
        Checks.due("4 first", 0, x.tune(1500, 0, 0));
        Checks.due("4 second", 1, x.tune(2399, 40, 40));
        for (int i = 2; i < 12; i++) {
            Checks.due("4 next", i, x.tune(1700, 0, 40));
        }
        Checks.due("4 without phrases", 12, x.alike(11));
        Checks.state("4 a thirteenth", () -> x.tune(1700, 0, 40));
        Checks.range("4 died first", () -> x.tune(2400, 0, 40));
        Checks.range("4 low first", () -> x.tune(1700, -1, 40));
        Checks.range("4 high first", () -> x.tune(1700, 5, 4));
        Checks.index("4 no thirteenth", () -> x.alike(12));
    }

    private static void phrases() {
        Hymnwright x = new Hymnwright();
        x.tune(1700, 0, 40);
        for (int tune : new int[] {-1, 1, 12, MIN, MAX}) {
            Checks.index("5 tune " + tune, () -> x.phrase(tune, 1, 0));
            Checks.index("5 tune first " + tune, () -> x.phrase(tune, 13, -1));
        }
        for (int many : new int[] {0, -1, 13, 32, 33, MIN, MAX}) {
            Checks.range("5 many " + many, () -> x.phrase(0, many, 0));
        }
        for (int many = 1; many <= 12; many++) {
            int notes = many;
            Checks.range("5 strong above " + many, () -> x.phrase(0, notes, 1 << notes));
        }
        Checks.range("5 strong below 0", () -> x.phrase(0, 5, -1));
        for (int i = 1; i <= 8; i++) {
            int many = i == 8 ? 12 : i;
            Checks.due("5 phrases", i, x.phrase(0, many, (1 << many) - 1));
        }
        Checks.state("5 a ninth", () -> x.phrase(0, 1, 0));
        Checks.range("5 many ahead of state", () -> x.phrase(0, 0, 0));
        Checks.range("5 strong ahead of state", () -> x.phrase(0, 1, 2));
    }

    private static void fitting() {
        Hymnwright x = withText();
        int tune = addTune(x);
        for (int wrong : new int[] {-1, 1, 12, MIN, MAX}) {
            Checks.index("6 text " + wrong, () -> x.fits(wrong, 0));
            Checks.index("6 tune " + wrong, () -> x.fits(0, wrong));
        }
        Checks.due("6 no line, no phrase", 0, x.fits(0, tune));
        x.line(0, 8, 0);
        Checks.due("6 no phrase", 0, x.fits(0, tune));
        x.phrase(tune, 8, 255);
        Checks.due("6 once", 1, x.fits(0, tune));
        x.phrase(tune, 6, 0);
        Checks.due("6 fewer lines", 0, x.fits(0, tune));
        x.line(0, 7, 0);
        Checks.due("6 another length", 0, x.fits(0, tune));
        int other = addTune(x, 7, 0, 8, 0);
        Checks.due("6 another order", 0, x.fits(0, other));
        Checks.due("6 without lines", 0, x.fits(addText(x), addTune(x, 3, 0)));
    }

    private static void fittingTwice() {
        Hymnwright x = withText(8, 0, 6, 0, 8, 0, 6, 0);
        Checks.due("6 twice", 2, x.fits(0, addTune(x, 8, 0, 6, 0)));
        Checks.due("6 a half of another metre", 0, x.fits(0, addTune(x, 8, 0, 8, 0)));
        Checks.due("6 four times", 0, x.fits(addText(x, 5, 0, 5, 0, 5, 0, 5, 0), addTune(x, 5, 0)));
        Checks.due("6 thrice", 0, x.fits(addText(x, 5, 0, 5, 0, 5, 0), addTune(x, 5, 0)));
        int halves = addTune(x, 8, 0, 6, 0);
        Checks.due("6 second half unlike", 0, x.fits(addText(x, 8, 0, 6, 0, 6, 0, 8, 0), halves));
        Checks.due("6 first half unlike", 0, x.fits(addText(x, 6, 0, 8, 0, 8, 0, 6, 0), halves));
        Checks.due("6 last line unlike", 0, x.fits(addText(x, 8, 0, 6, 0, 8, 0, 5, 0), halves));
        Checks.due("6 three of four", 0, x.fits(addText(x, 8, 0, 6, 0, 8, 0), halves));
        int eight = addText(x, 1, 0, 2, 0, 3, 0, 4, 0, 1, 0, 2, 0, 3, 0, 4, 0);
        Checks.due("6 twice with eight lines", 2, x.fits(eight, addTune(x, 1, 0, 2, 0, 3, 0, 4, 0)));
        Checks.due("6 once with eight lines", 1,
                x.fits(eight, addTune(x, 1, 0, 2, 0, 3, 0, 4, 0, 1, 0, 2, 0, 3, 0, 4, 0)));
    }

    private static void clashing() {
        Hymnwright x = withText(4, 0b0101, 3, 0b111);
        Checks.due("7 none", 0, x.clashes(0, addTune(x, 4, 0b0101, 3, 0b111)));
        Checks.due("7 all", 7, x.clashes(0, addTune(x, 4, 0b1010, 3, 0)));
        Checks.due("7 of both kinds", 3, x.clashes(0, addTune(x, 4, 0b1100, 3, 0b011)));
        Checks.state("7 not fitting", () -> x.clashes(0, addTune(x, 4, 0)));
        Checks.state("7 no phrase", () -> x.clashes(addText(x), addTune(x)));
        for (int wrong : new int[] {-1, 12, MIN, MAX}) {
            Checks.index("7 text " + wrong, () -> x.clashes(wrong, 0));
            Checks.index("7 tune " + wrong, () -> x.clashes(0, wrong));
            Checks.index("7 tune first " + wrong, () -> x.clashes(1, wrong));
        }
        int twice = addText(x, 2, 0b01, 3, 0b110, 2, 0b10, 3, 0b011);
        int half = addTune(x, 2, 0b01, 3, 0b110);
        Checks.due("7 the second half anew", 2 + 2, x.clashes(twice, half));
        int full = addText(x, 12, 4095, 12, 4095, 12, 4095, 12, 4095, 12, 4095, 12, 4095, 12, 4095, 12, 4095);
        Checks.due("7 the most", 96, x.clashes(full, addTune(x, 12, 0, 12, 0, 12, 0, 12, 0)));
    }

    private static void bestTune() {
        Hymnwright x = withText(4, 0b0101, 4, 0b0101);
        Checks.due("8 no tune", Hymnwright.NONE, x.best(0));
        addTune(x, 5, 0);
        Checks.due("8 none fits", Hymnwright.NONE, x.best(0));
        addTune(x, 4, 0b0001);
        Checks.due("8 the one that fits", 1, x.best(0));
        addTune(x, 4, 0b0100);
        Checks.due("8 lowest number", 1, x.best(0));
        addTune(x, 4, 0b0101, 4, 0b0001);
        Checks.due("8 fewest clashes", 3, x.best(0));
        x.tune(2399, 0, 40);
        x.phrase(4, 4, 0b0101);
        Checks.due("8 FREE or not", 4, x.best(0));
        for (int wrong : new int[] {-1, 1, 12, MIN, MAX}) {
            Checks.index("8 text " + wrong, () -> x.best(wrong));
        }
    }

    private static void alikeAndMetres() {
        Hymnwright x = new Hymnwright();
        addTune(x);
        Checks.due("9 alone", 1, x.alike(0));
        Checks.due("10 a metre without phrases", 1, x.metres());
        addTune(x, 8, 1, 6, 1);
        addTune(x, 6, 1, 8, 1);
        addTune(x, 8, 2, 6, 3);
        addTune(x, 8, 1);
        addTune(x);
        Checks.due("9 without phrases", 2, x.alike(5));
        Checks.due("9 whatever is strong", 2, x.alike(1));
        Checks.due("9 another order", 1, x.alike(2));
        Checks.due("9 the same from the later one", 2, x.alike(3));
        Checks.due("9 only a beginning", 1, x.alike(4));
        Checks.due("10 unlike metres", 4, x.metres());
        x.phrase(4, 6, 0);
        Checks.due("9 another phrase", 3, x.alike(4));
        Checks.due("10 another phrase", 3, x.metres());
        for (int wrong : new int[] {-1, 6, 12, MIN, MAX}) {
            Checks.index("9 tune " + wrong, () -> x.alike(wrong));
        }
        addText(x, 3, 0);
        Checks.due("10 texts do not count", 3, x.metres());
    }

    private static void allowing() {
        Hymnwright x = withText();
        addText(x);
        addTune(x);
        addTune(x);
        Checks.due("11 not allowed at first", false, x.allowText(0, true));
        Checks.due("11 allowed", true, x.allowText(0, true));
        Checks.due("11 still allowed", true, x.allowText(0, false));
        Checks.due("11 not any more", false, x.allowText(0, false));
        Checks.due("11 the other one", false, x.allowText(1, true));
        Checks.due("11 not the first", false, x.allowText(0, true));
        Checks.due("12 not allowed at first", false, x.allowTune(0, true));
        Checks.due("12 allowed", true, x.allowTune(0, true));
        Checks.due("12 still allowed", true, x.allowTune(0, false));
        Checks.due("12 not any more", false, x.allowTune(0, false));
        Checks.due("12 the other one", false, x.allowTune(1, true));
        Checks.due("12 not the first", false, x.allowTune(0, true));
        for (int wrong : new int[] {-1, 2, 12, MIN, MAX}) {
            Checks.index("11 text " + wrong, () -> x.allowText(wrong, true));
            Checks.index("12 tune " + wrong, () -> x.allowTune(wrong, true));
        }
    }

    private static void shifting() {
        Hymnwright x = new Hymnwright();
        x.tune(1700, 10, 20);
        Checks.due("13 lies there", 0, x.shift(0, 10, 20));
        Checks.due("13 lies there with room", 0, x.shift(0, 0, 40));
        Checks.due("13 at the lower end", 0, x.shift(0, 10, 40));
        Checks.due("13 at the upper end", 0, x.shift(0, 0, 20));
        Checks.due("13 higher by the fewest", 3, x.shift(0, 13, 40));
        Checks.due("13 lower by the fewest", -4, x.shift(0, 0, 16));
        Checks.due("13 lower, just so", -10, x.shift(0, 0, 10));
        Checks.due("13 higher, just so", 20, x.shift(0, 30, 40));
        Checks.due("13 too narrow", Hymnwright.NONE, x.shift(0, 15, 24));
        Checks.due("13 too narrow below", Hymnwright.NONE, x.shift(0, 0, 9));
        Checks.due("13 too narrow around", Hymnwright.NONE, x.shift(0, 11, 19));
        for (int note : new int[] {-1, 41, MIN, MAX}) {
            Checks.range("13 low " + note, () -> x.shift(0, note, 40));
            Checks.range("13 high " + note, () -> x.shift(0, 0, note));
        }
        Checks.range("13 low above high", () -> x.shift(0, 30, 29));
        for (int wrong : new int[] {-1, 1, 12, MIN, MAX}) {
            Checks.index("13 tune " + wrong, () -> x.shift(wrong, 0, 40));
            Checks.index("13 tune first " + wrong, () -> x.shift(wrong, -1, 41));
        }
        x.tune(1700, 0, 0);
        x.tune(1700, 40, 40);
        Checks.due("13 the most higher", 40, x.shift(1, 40, 40));
        Checks.due("13 the most lower", -40, x.shift(2, 0, 0));
    }
}
