/** Promises 24 to 28. */
final class ServicesTest {
    private static final int MIN = Integer.MIN_VALUE;
    private static final int MAX = Integer.MAX_VALUE;
    private static final int NONE = Hymnwright.NONE;
    private static final int SUNDAY = Hymnwright.SUNDAY;
    private static final int[][] NO_DAYS = {
        {1599, 12, 31}, {2400, 1, 1}, {2023, 0, 1}, {2023, 13, 1}, {2023, 1, 0}, {2023, 1, 32}, {2023, 2, 29},
        {2023, 4, 31}, {MIN, 1, 1}, {MAX, 1, 1}, {2023, MIN, 1}, {2023, MAX, 1}, {2023, 1, MIN}, {2023, 1, MAX}};

    public static void main(String[] args) {
        themes();
        reasons();
        rights();
        lately();
        latelyOverTheYear();
        whyThrows();
        singing();
        choosing();
        tuneOfAService();
        order();
        singThrows();
        sixty();
        tellingOfServices();
        sungTexts();
        Checks.finish();
    }

    /** Sundays have the theme 1 in all cycles. */
    private static Hymnwright withSundays() {
        Hymnwright x = new Hymnwright();
        for (int cycle = 0; cycle < 3; cycle++) {
            x.reading(SUNDAY, cycle, 1);
        }
        return x;
    }

    /** A text of one line, which the tunes of addTune fit. */
    private static void addText(Hymnwright x, int died, int themes, int marks) {
        int text = x.text(died, themes);
        x.line(text, 4, marks);
    }

    private static int addTune(Hymnwright x, int died, int marks) {
        int tune = x.tune(died, 0, 10);
        x.phrase(tune, 4, marks);
        return tune;
    }

    private static void themes() {
        Hymnwright x = new Hymnwright();
        Checks.due("24 nothing is kept", NONE, x.theme(2024, 1, 1));
        Checks.due("24 a Sunday without readings", NONE, x.theme(2024, 1, 7));
        x.reading(SUNDAY, 0, 0);
        x.reading(SUNDAY, 1, 15);
        Checks.due("24 2022 is of the cycle 0", 0, x.theme(2022, 1, 2));
        Checks.due("24 2023 is of the cycle 1", 15, x.theme(2023, 1, 1));
        Checks.due("24 2024 is of the cycle 2", NONE, x.theme(2024, 1, 7));
        Checks.due("24 not on a Monday", NONE, x.theme(2022, 1, 3));
        x.feast(5, true, 1, 2);
        Checks.due("24 a feast without readings, on a Sunday", NONE, x.theme(2022, 1, 2));
        x.reading(0, 0, 7);
        Checks.due("24 a feast with a reading", 7, x.theme(2022, 1, 2));
        Checks.due("24 none in another cycle", NONE, x.theme(2023, 1, 2));
        x.sundays(6);
        Checks.due("24 the Sunday again", 0, x.theme(2022, 1, 2));
        Checks.due("24 the feast put off", 7, x.theme(2022, 1, 3));
        x.reading(0, 0, NONE);
        Checks.due("24 without the reading", NONE, x.theme(2022, 1, 3));
        for (int[] day : NO_DAYS) {
            Checks.range("24 " + name(day), () -> x.theme(day[0], day[1], day[2]));
        }
    }

    private static String name(int[] day) {
        return day[0] + "-" + day[1] + "-" + day[2];
    }

    private static void reasons() {
        Hymnwright x = withSundays();
        addText(x, 2000, 1, 0);
        Checks.due("25 has not the theme, first", 1, x.why(0, 2023, 1, 1));
        addText(x, 2000, 2, 0);
        Checks.due("25 is not FREE, ahead of its tunes", 2, x.why(1, 2023, 1, 1));
        x.allowText(1, true);
        Checks.due("25 no tune", 3, x.why(1, 2023, 1, 1));
        int tune = addTune(x, 2000, 0);
        Checks.due("25 no tune that is FREE", 3, x.why(1, 2023, 1, 1));
        x.phrase(addTune(x, 1600, 0), 4, 0);
        Checks.due("25 no FREE tune that fits", 3, x.why(1, 2023, 1, 1));
        x.allowTune(tune, true);
        Checks.due("25 could be chosen", 0, x.why(1, 2023, 1, 1));
        x.sing(2023, 1, 1);
        Checks.due("25 sung LATELY", 4, x.why(1, 2023, 1, 1));
        x.allowTune(tune, false);
        Checks.due("25 the tune ahead of LATELY", 3, x.why(1, 2023, 1, 1));
        x.allowText(1, false);
        Checks.due("25 the text ahead of the tune", 2, x.why(1, 2023, 1, 1));
        x.allowText(0, true);
        x.allowTune(tune, true);
        Checks.due("25 the theme ahead of all", 1, x.why(0, 2023, 1, 1));
    }

    private static void rights() {
        Hymnwright x = withSundays();
        addText(x, 1950, 2, 0);
        addTune(x, 1951, 0);
        Checks.due("25 the text, 70 years behind", 2, x.why(0, 2020, 1, 5));
        Checks.due("25 the tune, 70 years behind", 3, x.why(0, 2021, 1, 3));
        Checks.due("25 both, above 70 years behind", 0, x.why(0, 2022, 1, 2));
        Checks.due("25 ahead of the death", 2, x.why(0, 1600, 1, 2));
        x.allowText(0, true);
        Checks.due("25 the text allowed", 3, x.why(0, 2020, 1, 5));
        x.allowTune(0, true);
        Checks.due("25 both allowed", 0, x.why(0, 1600, 1, 2));
    }

    private static void lately() {
        Hymnwright x = withSundays();
        addText(x, 1600, 2, 0);
        addText(x, 1600, 2, 1);
        addTune(x, 1600, 0);
        Checks.due("26 the hymn", 0, x.sing(2023, 2, 5));
        Checks.due("25 on that day", 4, x.why(0, 2023, 2, 5));
        Checks.due("25 7 days behind", 4, x.why(0, 2023, 2, 12));
        Checks.due("25 28 days behind", 4, x.why(0, 2023, 3, 5));
        Checks.due("25 35 days behind", 0, x.why(0, 2023, 3, 12));
        Checks.due("25 7 days ahead", 0, x.why(0, 2023, 1, 29));
        Checks.due("25 another text", 0, x.why(1, 2023, 2, 5));
        x.feast(9, false, 3, 6);
        x.reading(0, 1, 1);
        Checks.due("25 29 days behind", 0, x.why(0, 2023, 3, 6));
    }

    private static void latelyOverTheYear() {
        Hymnwright x = withSundays();
        addText(x, 1600, 2, 0);
        addTune(x, 1600, 0);
        x.sing(2023, 12, 24);
        Checks.due("25 28 days behind, over the year", 4, x.why(0, 2024, 1, 21));
        Checks.due("25 35 days behind, over the year", 0, x.why(0, 2024, 1, 28));
        Checks.due("26 over the year", 0, x.sing(2024, 2, 4));
        Checks.due("25 28 days over the leap day", 4, x.why(0, 2024, 3, 3));
        Checks.due("25 35 days over the leap day", 0, x.why(0, 2024, 3, 10));
    }

    private static void whyThrows() {
        Hymnwright x = withSundays();
        addText(x, 1600, 2, 0);
        Checks.state("25 no theme", () -> x.why(0, 2023, 1, 2));
        for (int text : new int[] {-1, 1, 12, MIN, MAX}) {
            Checks.index("25 text " + text, () -> x.why(text, 2023, 1, 1));
            Checks.index("25 text ahead of day " + text, () -> x.why(text, 2023, 2, 29));
            Checks.index("25 text ahead of theme " + text, () -> x.why(text, 2023, 1, 2));
        }
        for (int[] day : NO_DAYS) {
            Checks.range("25 " + name(day), () -> x.why(0, day[0], day[1], day[2]));
        }
    }

    private static void singing() {
        Hymnwright x = withSundays();
        addText(x, 1600, 1, 0);
        addText(x, 1600, 2, 0b1111);
        addText(x, 1600, 2, 0b0011);
        addTune(x, 1600, 0b0001);
        Checks.due("26 fewest clashes", 2, x.sing(2023, 1, 1));
        Checks.due("26 not LATELY", 1, x.sing(2023, 1, 8));
        Checks.state("26 no text is left", () -> x.sing(2023, 1, 15));
        Checks.index("26 a throw holds no service", () -> x.service(2, 0));
        Checks.due("26 fewest clashes again", 2, x.sing(2023, 2, 12));
        Checks.due("28 two services", 2, x.sung(2));
        Checks.due("28 one service", 1, x.sung(1));
        Checks.due("28 without its theme", 0, x.sung(0));
    }

    private static void choosing() {
        Hymnwright x = withSundays();
        addText(x, 1600, 2, 0);
        addText(x, 1600, 2, 0);
        addText(x, 1600, 2, 0b1111);
        addTune(x, 1600, 0);
        Checks.due("26 lowest number", 0, x.sing(2023, 1, 1));
        Checks.due("26 the next", 1, x.sing(2023, 1, 8));
        Checks.due("26 the one with clashes", 2, x.sing(2023, 1, 15));
        Checks.state("26 all LATELY", () -> x.sing(2023, 1, 22));
        Checks.due("26 first again", 0, x.sing(2023, 2, 5));
        x.allowTune(0, false);
        Checks.due("26 the second again", 1, x.sing(2023, 2, 12));
        Checks.due("26 third again", 2, x.sing(2023, 2, 19));
        x.feast(9, false, 3, 8);
        x.reading(0, 1, 5);
        Checks.state("26 no text has the theme of the feast", () -> x.sing(2023, 3, 8));
        addText(x, 1600, 2, 0);
        Checks.due("26 most services ahead of fewest clashes", 2, mostServices().sing(2023, 2, 19));
    }

    /** The last of three texts was in two services, the others, with fewer clashes, in one and none. */
    private static Hymnwright mostServices() {
        Hymnwright x = withSundays();
        addText(x, 1600, 2, 0);
        addText(x, 2300, 2, 0);
        addText(x, 1600, 2, 0b1111);
        addTune(x, 1600, 0);
        x.feast(9, false, 1, 8);
        x.reading(0, 1, 1);
        Checks.due("26 first", 0, x.sing(2022, 1, 2));
        Checks.due("26 second", 2, x.sing(2022, 1, 9));
        Checks.state("26 none is FREE", () -> x.sing(2022, 1, 16));
        x.allowText(1, true);
        Checks.due("26 allowed", 1, x.sing(2022, 1, 16));
        Checks.due("26 first twice", 0, x.sing(2022, 2, 6));
        Checks.due("26 last twice", 2, x.sing(2022, 2, 13));
        Checks.due("26 first thrice", 0, x.sing(2023, 2, 5));
        return x;
    }

    private static void tuneOfAService() {
        Hymnwright x = withSundays();
        addText(x, 1600, 2, 0b0011);
        addTune(x, 1600, 0b1111);
        addTune(x, 2000, 0b0011);
        addTune(x, 1600, 0b0001);
        addTune(x, 1600, 0b0010);
        x.sing(2023, 1, 1);
        Checks.due("26 a FREE tune with the fewest clashes", 2, x.service(0, 1));
        Checks.due("27 its clashes", 1, x.service(0, 4));
        Checks.due("8 the best one", 1, x.best(0));
        x.sing(2071, 1, 4);
        Checks.due("26 FREE by now", 1, x.service(1, 1));
        Checks.due("27 the earlier one stays", 2, x.service(0, 1));
        // A text is chosen by the clashes with the tune that it is sung to, not with its best one.
        Hymnwright y = withSundays();
        addText(y, 1600, 2, 0b0111);
        addText(y, 1600, 2, 0b0001);
        addTune(y, 2000, 0b0111);
        addTune(y, 1600, 0);
        Checks.due("26 by the clashes with its tune", 1, y.sing(2023, 1, 1));
    }

    private static void order() {
        Hymnwright x = withSundays();
        for (int i = 0; i < 12; i++) {
            addText(x, 1600, 2, 0);
        }
        addTune(x, 1600, 0);
        Checks.due("26 first", 0, x.sing(2023, 1, 15));
        Checks.state("26 on that day", () -> x.sing(2023, 1, 15));
        Checks.state("26 earlier", () -> x.sing(2023, 1, 8));
        Checks.state("26 in an earlier year", () -> x.sing(2022, 12, 25));
        Checks.due("26 later", 1, x.sing(2023, 1, 22));
        Checks.state("26 between", () -> x.sing(2023, 1, 15));
        Checks.due("26 an earlier day of a later year", 0, x.sing(2024, 1, 7));
    }

    private static void singThrows() {
        Hymnwright x = withSundays();
        for (int[] day : NO_DAYS) {
            Checks.range("26 " + name(day), () -> x.sing(day[0], day[1], day[2]));
        }
        Checks.state("26 no theme", () -> x.sing(2023, 1, 2));
        Checks.state("26 no text", () -> x.sing(2023, 1, 1));
        addText(x, 1600, 2, 0);
        Checks.state("26 no tune", () -> x.sing(2023, 1, 1));
        addTune(x, 2000, 0);
        Checks.state("26 no FREE tune", () -> x.sing(2023, 1, 1));
        Checks.index("26 a throw holds no service", () -> x.service(0, 0));
        x.allowTune(0, true);
        Checks.due("26 allowed", 0, x.sing(2023, 1, 1));
        Checks.range("26 no such day ahead of state", () -> x.sing(2022, 2, 29));
    }

    private static void sixty() {
        Hymnwright x = withSundays();
        addText(x, 1600, 2, 0);
        addTune(x, 1600, 0);
        x.moving(9, false, 0);
        for (int cycle = 0; cycle < 3; cycle++) {
            x.reading(0, cycle, 1);
        }
        for (int year = 1700; year < 1760; year++) {
            int easter = x.easter(year);
            Checks.due("26 Easter " + year, 0, x.sing(year, easter / 100, easter % 100));
        }
        int next = x.easter(1760);
        Checks.state("26 there were 60", () -> x.sing(1760, next / 100, next % 100));
        Checks.range("26 no such day ahead of 60", () -> x.sing(1761, 2, 29));
        Checks.due("28 sixty services", 60, x.sung(0));
        Checks.due("27 the last one", 1759, x.service(59, 2));
        Checks.index("27 no sixty-first", () -> x.service(60, 0));
    }

    private static void tellingOfServices() {
        Hymnwright x = withSundays();
        addText(x, 1600, 1, 0);
        addText(x, 1600, 2, 0b0111);
        addTune(x, 2300, 0);
        addTune(x, 1600, 0b0001);
        x.sing(2023, 12, 31);
        Checks.due("27 its text", 1, x.service(0, 0));
        Checks.due("27 its tune", 1, x.service(0, 1));
        Checks.due("27 its year", 2023, x.service(0, 2));
        Checks.due("27 its month and day", 1231, x.service(0, 3));
        Checks.due("27 its clashes", 2, x.service(0, 4));
        x.line(1, 4, 0b1111);
        Checks.due("27 its clashes, by now twice", 5, x.service(0, 4));
        x.phrase(1, 4, 0b1111);
        Checks.due("27 its clashes, by now once again", 2, x.service(0, 4));
        x.phrase(1, 4, 0b1111);
        Checks.due("27 does not fit any more", NONE, x.service(0, 4));
        Checks.due("27 the tune as it was chosen", 1, x.service(0, 1));
        for (int service : new int[] {-1, 1, 60, MIN, MAX}) {
            Checks.index("27 service " + service, () -> x.service(service, 0));
            Checks.index("27 service first " + service, () -> x.service(service, 5));
        }
        for (int what : new int[] {-1, 5, MIN, MAX}) {
            Checks.range("27 what " + what, () -> x.service(0, what));
        }
    }

    private static void sungTexts() {
        Hymnwright x = withSundays();
        addText(x, 1600, 2, 0);
        addText(x, 1600, 2, 1);
        addTune(x, 1600, 0);
        Checks.due("28 none yet", 0, x.sung(0));
        x.sing(2023, 1, 1);
        x.sing(2023, 1, 8);
        x.sing(2023, 3, 5);
        Checks.due("28 two", 2, x.sung(0));
        Checks.due("28 one", 1, x.sung(1));
        for (int text : new int[] {-1, 2, 12, MIN, MAX}) {
            Checks.index("28 text " + text, () -> x.sung(text));
        }
    }
}
