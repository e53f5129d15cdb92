import java.time.LocalDate;

/**
 * The edges that the document names in the promises 24 to 28 and in "Rights" and "Services", each behind its
 * sentence: the last values that are allowed, none, and as many as there may be. What is refused beyond them stands
 * in RefusedCallsTest.
 */
final class ServicesEdgesTest {
    private static final int NONE = Hymnwright.NONE;
    private static final int SUNDAY = Hymnwright.SUNDAY;

    public static void main(String[] args) {
        themesOfTheCycles();
        themesOfNothing();
        themesOfWhatIsKeptAlone();
        themesOfTheEdgesOfYears();
        everyThemeOfASet();
        rights(true);
        rights(false);
        anyTuneThatFitsAndIsFree();
        tunesThatAreSungTwice();
        firstOfTheReasons();
        latelyByDays();
        latelyOfAnyService();
        latelyNotOfLaterServices();
        oneServiceADay();
        servicesOverTheYear();
        aServiceWithoutAHymn();
        noTextCanBeChosen();
        anyOfTwelveTexts();
        mostServicesByOne();
        fewestClashesByOne();
        lowestNumber();
        clashesWithItsTune();
        anyOfTwelveTunes();
        tunesThatAreFree();
        sixtyServices();
        firstAndLastDays();
        clashesAsTheyAreNow();
        clashesBehindTheRights();
        tuneAsItWasChosen();
        sungNoneToSixty();
        theLastCallThatIsPromised();
        Checks.finish();
    }

    private static int addText(Hymnwright x, int died, int themes, int marks) {
        int text = x.text(died, themes);
        x.line(text, 12, marks);
        return text;
    }

    private static int addTune(Hymnwright x, int died, int marks) {
        int tune = x.tune(died, 0, 10);
        x.phrase(tune, 12, marks);
        return tune;
    }

    /** A feast of that day, with a theme in all cycles. */
    private static void addDay(Hymnwright x, LocalDate day, int theme) {
        int feast = x.feast(9, false, day.getMonthValue(), day.getDayOfMonth());
        read(x, feast, theme);
    }

    private static void read(Hymnwright x, int feast, int theme) {
        for (int cycle = 0; cycle <= 2; cycle++) {
            x.reading(feast, cycle, theme);
        }
    }

    /** Sundays have the theme 0; a text with it is FREE at any time, and so is the tune that fits it. */
    private static Hymnwright withSundays() {
        Hymnwright x = new Hymnwright();
        read(x, SUNDAY, 0);
        return x;
    }

    private static int sing(Hymnwright x, LocalDate day) {
        return x.sing(day.getYear(), day.getMonthValue(), day.getDayOfMonth());
    }

    private static int why(Hymnwright x, int text, LocalDate day) {
        return x.why(text, day.getYear(), day.getMonthValue(), day.getDayOfMonth());
    }

    /** "The cycle of a year is its rest by 3"; themes 0 and 15. */
    private static void themesOfTheCycles() {
        Hymnwright x = new Hymnwright();
        x.feast(9, false, 5, 5);
        x.reading(0, 0, 0);
        x.reading(0, 1, 15);
        x.reading(SUNDAY, 1, 0);
        x.reading(SUNDAY, 2, 15);
        int[][] due = {{1600, 15}, {1601, NONE}, {1602, 0}, {2397, 0}, {2398, 15}, {2399, NONE}, {1999, 15}};
        for (int[] pair : due) {
            Checks.due("24 the feast in " + pair[0], pair[1], x.theme(pair[0], 5, 5));
        }
        Checks.due("24 a Sunday of the cycle 0", NONE, x.theme(2022, 1, 2));
        Checks.due("24 a Sunday of the cycle 1", 0, x.theme(2023, 1, 1));
        Checks.due("24 a Sunday of the cycle 2", 15, x.theme(2024, 1, 7));
        Checks.due("24 the cycle of the old year", 0, x.theme(2023, 12, 31));
    }

    /** "NONE if nothing is kept, or there is no reading". */
    private static void themesOfNothing() {
        Hymnwright x = new Hymnwright();
        Checks.due("24 nothing is kept", NONE, x.theme(2023, 1, 2));
        Checks.due("24 a Sunday without a reading", NONE, x.theme(2023, 1, 1));
        read(x, SUNDAY, 3);
        Checks.due("24 nothing is kept beside Sundays", NONE, x.theme(2023, 1, 2));
        Checks.due("24 a Sunday with a reading", 3, x.theme(2023, 1, 1));
        x.feast(9, false, 1, 2);
        Checks.due("24 a feast without a reading", NONE, x.theme(2023, 1, 2));
        x.reading(0, 1, 0);
        Checks.due("24 a feast with a reading", 0, x.theme(2023, 1, 2));
        x.reading(0, 1, NONE);
        Checks.due("24 a feast without it again", NONE, x.theme(2023, 1, 2));
        x.reading(SUNDAY, 1, NONE);
        Checks.due("24 a Sunday without it again", NONE, x.theme(2023, 1, 1));
    }

    /** "of what is kept on it alone": not of the Sunday, nor of a feast that was put off or left out. */
    private static void themesOfWhatIsKeptAlone() {
        Hymnwright x = withSundays();
        x.feast(2, false, 1, 1);
        Checks.due("24 a feast without a reading on a Sunday", NONE, x.theme(2023, 1, 1));
        x.feast(1, false, 1, 1);
        read(x, 1, 5);
        Checks.due("24 a feast that is left out", NONE, x.theme(2023, 1, 1));
        x.feast(1, true, 1, 1);
        read(x, 2, 6);
        Checks.due("24 the day of a feast that is put off", NONE, x.theme(2023, 1, 1));
        Checks.due("24 the day that it is put onto", 6, x.theme(2023, 1, 2));
        x.sundays(3);
        Checks.due("24 the Sunday again", 0, x.theme(2023, 1, 1));
        read(x, 0, 7);
        Checks.due("24 the Sunday still", 0, x.theme(2023, 1, 1));
        x.sundays(2);
        Checks.due("24 the feast on the Sunday", 7, x.theme(2023, 1, 1));
    }

    private static void themesOfTheEdgesOfYears() {
        Hymnwright x = new Hymnwright();
        for (int i = 0; i < 18; i++) {
            x.feast(1, false, 6, 1);
        }
        x.feast(9, false, 12, 31);
        x.feast(9, false, 1, 1);
        read(x, 18, 14);
        read(x, 19, 15);
        for (int year : new int[] {1600, 2000, 2023, 2399}) {
            Checks.due("24 the first day, the twentieth feast, " + year, 15, x.theme(year, 1, 1));
            Checks.due("24 the last day, " + year, 14, x.theme(year, 12, 31));
        }
    }

    /** "a set of the themes 0 to 15": none, each alone, all but each, all. */
    private static void everyThemeOfASet() {
        for (int theme = 0; theme < 16; theme++) {
            Hymnwright x = new Hymnwright();
            read(x, SUNDAY, theme);
            for (int i = 0; i < 4; i++) {
                addText(x, 1500, new int[] {0, 1 << theme, 65535 - (1 << theme), 65535}[i], 0);
            }
            addTune(x, 1500, 0);
            Checks.due("25 no theme, for " + theme, 1, x.why(0, 2023, 1, 1));
            Checks.due("25 the theme alone, for " + theme, 0, x.why(1, 2023, 1, 1));
            Checks.due("25 all other ones, for " + theme, 1, x.why(2, 2023, 1, 1));
            Checks.due("25 all themes, for " + theme, 0, x.why(3, 2023, 1, 1));
            for (int other = 0; other < 16; other++) {
                if (other != theme) {
                    x.reading(SUNDAY, 1, other);
                    Checks.due("25 the theme " + theme + " alone, for " + other, 1, x.why(1, 2023, 1, 1));
                    Checks.due("25 all but the theme " + theme + ", for " + other, 0, x.why(2, 2023, 1, 1));
                }
            }
        }
    }

    /** "It is FREE in a year that is more than 70 years behind that, or if it is allowed": texts, and tunes. */
    private static void rights(boolean isOfText) {
        int reason = isOfText ? 2 : 3;
        // The years of death, and of the days: 70 and 71 behind, none behind, ahead; the first and the last of all.
        int[][] notFree = {{1530, 1600}, {1531, 1601}, {2329, 2399}, {2399, 2399}, {2399, 1600}, {1953, 2023},
            {2023, 2023}, {2100, 2023}, {1600, 1600}, {1601, 1600}};
        int[][] free = {{1529, 1600}, {1530, 1601}, {1500, 1600}, {2328, 2399}, {1952, 2023}, {1500, 2399}};
        for (int[] years : notFree) {
            rightsOf(isOfText, years[0], years[1], reason);
        }
        for (int[] years : free) {
            rightsOf(isOfText, years[0], years[1], 0);
        }
    }

    /** Of a text and a tune one died in that year, the other is FREE at any time. */
    private static void rightsOf(boolean isOfText, int died, int year, int reason) {
        Hymnwright x = new Hymnwright();
        addDay(x, LocalDate.of(2000, 5, 5), 0);
        addText(x, isOfText ? died : 1500, 1, 0);
        addTune(x, isOfText ? 1500 : died, 0);
        String what = (isOfText ? "text" : "tune") + ", died in " + died + ", in " + year;
        Checks.due("25 the " + what, reason, x.why(0, year, 5, 5));
        allow(x, isOfText, true);
        Checks.due("25 allowed, the " + what, 0, x.why(0, year, 5, 5));
        allow(x, isOfText, false);
        Checks.due("25 not any more, the " + what, reason, x.why(0, year, 5, 5));
        allow(x, !isOfText, true);
        Checks.due("25 the other one is allowed, the " + what, reason, x.why(0, year, 5, 5));
        Checks.due("8 the best one, FREE or not, the " + what, 0, x.best(0));
        if (reason == 0) {
            Checks.due("26 the " + what, 0, x.sing(year, 5, 5));
        } else {
            Checks.state("26 the " + what, () -> x.sing(year, 5, 5));
        }
    }

    private static void allow(Hymnwright x, boolean isOfText, boolean is) {
        if (isOfText) {
            x.allowText(0, is);
        } else {
            x.allowTune(0, is);
        }
    }

    /** "no tune that fits it is FREE in that year": none at all, none that fits, none that is FREE, one of twelve. */
    private static void anyTuneThatFitsAndIsFree() {
        Hymnwright x = withSundays();
        addText(x, 1500, 1, 0);
        Checks.due("25 no tune", 3, x.why(0, 2023, 1, 1));
        x.tune(1500, 0, 0);
        Checks.due("25 one without phrases", 3, x.why(0, 2023, 1, 1));
        for (int i = 1; i < 12; i++) {
            if (i % 2 == 0) {
                addTune(x, 2399, 0);
            } else {
                x.phrase(x.tune(1500, 0, 0), 11, 0);
            }
            Checks.due("25 none fits and is FREE, of " + (i + 1), 3, x.why(0, 2023, 1, 1));
        }
        for (int i = 2; i < 12; i += 2) {
            x.allowTune(i, true);
            Checks.due("25 the tune " + i + " alone", 0, x.why(0, 2023, 1, 1));
            x.allowTune(i, false);
            Checks.due("25 the tune " + i + " not any more", 3, x.why(0, 2023, 1, 1));
        }
        Hymnwright y = withSundays();
        y.text(1500, 1);
        y.tune(1500, 0, 0);
        Checks.due("25 no line and no phrase", 3, y.why(0, 2023, 1, 1));
        Checks.state("26 no line and no phrase", () -> y.sing(2023, 1, 1));
    }

    /** "those that fit it", once or twice alike: for reason 3, for the hymn, and for its tune. */
    private static void tunesThatAreSungTwice() {
        Hymnwright x = withSundays();
        addText(x, 1500, 1, 0b0011);
        x.line(0, 12, 0b0011);
        addTune(x, 2399, 0b0011);
        Checks.due("25 the tune that fits twice is not FREE", 3, x.why(0, 2023, 1, 1));
        addTune(x, 1500, 0b0001);
        Checks.due("25 a tune that fits twice is FREE", 0, x.why(0, 2023, 1, 1));
        addText(x, 1500, 1, 0b1110);
        Checks.due("26 two clashes in two lines, ahead of four in one", 0, x.sing(2023, 1, 1));
        Checks.due("27 the tune that is sung twice", 1, x.service(0, 1));
        Checks.due("27 the clashes of both halves", 2, x.service(0, 4));
        Checks.due("26 four clashes in one line", 1, x.sing(2023, 1, 8));
        addTune(x, 1500, 0b0011);
        x.phrase(2, 12, 0);
        x.sing(2023, 2, 5);
        Checks.due("27 twice and once with two clashes: the lowest number", 1, x.service(2, 1));
        x.tune(1500, 0, 10);
        x.phrase(3, 12, 0b0011);
        x.phrase(3, 12, 0b0001);
        x.sing(2024, 1, 7);
        Checks.due("27 once with one clash, ahead of twice with two", 3, x.service(3, 1));
        x.allowTune(0, true);
        x.sing(2024, 2, 11);
        Checks.due("27 twice with none, ahead of once with one", 0, x.service(4, 1));
        Hymnwright y = withSundays();
        addText(y, 1500, 1, 0b0001);
        y.line(0, 12, 0b0001);
        addText(y, 1500, 1, 0b0001);
        addTune(y, 1500, 0);
        Checks.due("26 one clash in one line, ahead of two in two", 1, y.sing(2023, 1, 1));
    }

    /** "for the first of these reasons that is so": of all those from it on, and of it alone. */
    private static void firstOfTheReasons() {
        for (int reason = 1; reason <= 4; reason++) {
            for (int last = reason; last <= 4; last++) {
                Hymnwright x = withSundays();
                x.feast(9, false, 1, 2);
                x.reading(0, 1, 1);
                addText(x, 2000, 1, 0);
                addTune(x, 2000, 0);
                x.allowText(0, true);
                x.allowTune(0, true);
                if (last == 4) {
                    x.sing(2023, 1, 1);
                }
                x.allowTune(0, !(reason <= 3 && last >= 3));
                x.allowText(0, !(reason <= 2 && last >= 2));
                Checks.due("25 the reasons " + reason + " to " + last, reason, x.why(0, 2023, 1, reason == 1 ? 2 : 1));
            }
        }
    }

    /** "a service with it on that day, or on one of the 28 days ahead of it": over all edges of months and years. */
    private static void latelyByDays() {
        LocalDate[] days = {LocalDate.of(2023, 5, 1), LocalDate.of(2023, 2, 1), LocalDate.of(2024, 2, 1),
            LocalDate.of(2024, 1, 31), LocalDate.of(1700, 2, 1), LocalDate.of(1900, 2, 20), LocalDate.of(2000, 2, 20),
            LocalDate.of(2023, 12, 3), LocalDate.of(2023, 12, 4), LocalDate.of(2024, 12, 15),
            LocalDate.of(1999, 12, 31), LocalDate.of(1600, 2, 10), LocalDate.of(1600, 12, 31),
            LocalDate.of(2399, 12, 2), LocalDate.of(2024, 2, 29)};
        for (LocalDate day : days) {
            Hymnwright x = new Hymnwright();
            addText(x, 1500, 1, 0);
            addText(x, 1500, 1, 1);
            addTune(x, 1500, 0);
            int[] behind = {-29, -28, -1, 0, 1, 2, 27, 28, 29, 30};
            for (int many : behind) {
                addDay(x, day.plusDays(many), 0);
            }
            Checks.due("26 the hymn on " + day, 0, sing(x, day));
            for (int many : behind) {
                LocalDate asked = day.plusDays(many);
                if (asked.getYear() >= 1600 && asked.getYear() <= 2399) {
                    String what = "25 " + many + " days behind " + day;
                    Checks.due(what, many >= 0 && many <= 28 ? 4 : 0, why(x, 0, asked));
                    Checks.due(what + ", the other text", 0, why(x, 1, asked));
                }
            }
            if (day.plusDays(29).getYear() <= 2399) {
                Checks.due("26 the other text 28 days behind " + day, 1, sing(x, day.plusDays(28)));
                Checks.due("26 again 29 days behind " + day, 0, sing(x, day.plusDays(29)));
            }
        }
    }

    /** Any service with it counts, be it the first of many or the last. */
    private static void latelyOfAnyService() {
        Hymnwright x = withSundays();
        addText(x, 1500, 1, 0);
        addText(x, 1500, 1, 1);
        addText(x, 1500, 1, 2);
        addTune(x, 1500, 0);
        LocalDate first = LocalDate.of(2023, 1, 1);
        int[] weeks = {0, 1, 2, 5, 6, 7};
        for (int i = 0; i < weeks.length; i++) {
            Checks.due("26 week " + weeks[i], i % 3, sing(x, first.plusWeeks(weeks[i])));
        }
        for (int week = 0; week <= 13; week++) {
            for (int text = 0; text < 3; text++) {
                int since = week - text;
                boolean isLately = since >= 0 && since <= 4 || since >= 5 && since <= 9;
                LocalDate asked = first.plusWeeks(week);
                Checks.due("25 text " + text + " in week " + week, isLately ? 4 : 0, why(x, text, asked));
            }
        }
    }

    /** "services on later days do not matter": by one day, by 28, by years. */
    private static void latelyNotOfLaterServices() {
        Hymnwright x = withSundays();
        addText(x, 1500, 1, 0);
        addTune(x, 1500, 0);
        addDay(x, LocalDate.of(2023, 12, 30), 0);
        x.sing(2023, 12, 31);
        Checks.due("25 the day ahead", 0, x.why(0, 2023, 12, 30));
        Checks.due("25 that day", 4, x.why(0, 2023, 12, 31));
        Checks.due("25 the week ahead", 0, x.why(0, 2023, 12, 24));
        Checks.due("25 28 days ahead", 0, x.why(0, 2023, 12, 3));
        Checks.due("25 the first Sunday of all", 0, x.why(0, 1600, 1, 2));
        Checks.due("25 the last Sunday of all", 0, x.why(0, 2399, 12, 26));
        Checks.due("28 it was sung, yet", 1, x.sung(0));
    }

    /** "in the order of their days, at most one on a day": the same day, the day ahead, the day behind. */
    private static void oneServiceADay() {
        Hymnwright x = new Hymnwright();
        for (int i = 0; i < 12; i++) {
            addText(x, 1500, 1, 0);
        }
        addTune(x, 1500, 0);
        for (int day = 1; day <= 5; day++) {
            addDay(x, LocalDate.of(2023, 5, day), 0);
        }
        Checks.due("26 the first service", 0, x.sing(2023, 5, 3));
        Checks.due("25 another text could be chosen that day", 0, x.why(1, 2023, 5, 3));
        Checks.state("26 the same day", () -> x.sing(2023, 5, 3));
        Checks.state("26 the day ahead", () -> x.sing(2023, 5, 2));
        Checks.state("26 that day of the year ahead", () -> x.sing(2022, 5, 4));
        Checks.index("27 no second service", () -> x.service(1, 0));
        Checks.due("26 the day behind", 1, x.sing(2023, 5, 4));
        Checks.state("26 the first day again", () -> x.sing(2023, 5, 3));
        Checks.state("26 the second day again", () -> x.sing(2023, 5, 4));
        Checks.due("26 the day behind that", 2, x.sing(2023, 5, 5));
        Checks.due("26 an earlier day of the next year", 0, x.sing(2024, 5, 1));
        Checks.due("27 the first day", 503, x.service(0, 3));
        Checks.due("27 the second day", 504, x.service(1, 3));
        Checks.due("27 the third day", 505, x.service(2, 3));
        Checks.due("27 the fourth day", 501, x.service(3, 3));
    }

    /** From the last day of a year to the first of the next, and over the end of February. */
    private static void servicesOverTheYear() {
        LocalDate[] days = {LocalDate.of(2023, 12, 31), LocalDate.of(2024, 1, 1), LocalDate.of(2024, 2, 28),
            LocalDate.of(2024, 2, 29), LocalDate.of(2024, 3, 1), LocalDate.of(2024, 12, 31), LocalDate.of(2025, 1, 1),
            LocalDate.of(2025, 2, 28), LocalDate.of(2025, 3, 1)};
        Hymnwright x = new Hymnwright();
        for (int i = 0; i < 12; i++) {
            addText(x, 1500, 1, 0);
        }
        addTune(x, 1500, 0);
        for (int i = 0; i < 5; i++) {
            addDay(x, days[i], 0);
        }
        for (int i = 0; i < days.length; i++) {
            LocalDate day = days[i];
            sing(x, day);
            Checks.state("26 the same day, " + day, () -> sing(x, day));
            if (i > 0) {
                LocalDate ahead = days[i - 1];
                Checks.state("26 the service ahead of " + day, () -> sing(x, ahead));
            }
            Checks.due("27 the year of " + day, day.getYear(), x.service(i, 2));
            Checks.due("27 the day of " + day, 100 * day.getMonthValue() + day.getDayOfMonth(), x.service(i, 3));
        }
    }

    /** "A service without a hymn is none": it has no number, and an earlier day can follow. */
    private static void aServiceWithoutAHymn() {
        Hymnwright x = withSundays();
        addText(x, 1500, 1, 0);
        addTune(x, 1500, 0);
        addDay(x, LocalDate.of(2023, 6, 1), 9);
        x.sing(2023, 1, 1);
        Checks.state("26 no text with the theme", () -> x.sing(2023, 6, 1));
        Checks.state("26 no theme", () -> x.sing(2023, 6, 2));
        Checks.state("26 sung LATELY", () -> x.sing(2023, 1, 29));
        Checks.due("28 one service", 1, x.sung(0));
        Checks.index("27 one service", () -> x.service(1, 0));
        Checks.due("25 not LATELY by the refused one", 0, x.why(0, 2023, 2, 5));
        Checks.due("26 an earlier day than the refused ones", 0, x.sing(2023, 2, 5));
        Checks.due("27 it is the second", 205, x.service(1, 3));
    }

    /** "no text can be chosen": no text, and each of the reasons. */
    private static void noTextCanBeChosen() {
        Hymnwright x = withSundays();
        Checks.state("26 no text", () -> x.sing(2023, 1, 1));
        addText(x, 2000, 2, 0);
        addTune(x, 2000, 0);
        Checks.state("26 reason 1", () -> x.sing(2023, 1, 1));
        addText(x, 2000, 1, 0);
        x.allowTune(0, true);
        Checks.due("25 reason 2", 2, x.why(1, 2023, 1, 1));
        Checks.state("26 reason 2", () -> x.sing(2023, 1, 1));
        x.allowText(1, true);
        x.allowTune(0, false);
        Checks.due("25 reason 3", 3, x.why(1, 2023, 1, 1));
        Checks.state("26 reason 3", () -> x.sing(2023, 1, 1));
        x.allowTune(0, true);
        Checks.due("26 none of the reasons", 1, x.sing(2023, 1, 1));
        Checks.due("25 reason 4", 4, x.why(1, 2023, 1, 8));
        Checks.state("26 reason 4", () -> x.sing(2023, 1, 8));
    }

    /** Each of twelve may be the one that has none of the reasons. */
    private static void anyOfTwelveTexts() {
        for (int only = 0; only < 12; only++) {
            Hymnwright x = withSundays();
            for (int i = 0; i < 12; i++) {
                addText(x, i % 2 == 0 || i == only ? 1500 : 2399, i % 2 == 1 || i == only ? 1 : 0, 0);
            }
            addTune(x, 1500, 0);
            Checks.due("26 the text " + only + " alone", only, x.sing(2023, 1, 1));
            Checks.due("27 the text " + only + " alone", only, x.service(0, 0));
        }
    }

    /** "that which was in the most services so far": by one, ahead of clashes and numbers, over the years. */
    private static void mostServicesByOne() {
        Hymnwright x = withSundays();
        addText(x, 1500, 1, 0);
        addText(x, 1500, 3, 4095);
        addTune(x, 1500, 0);
        addDay(x, LocalDate.of(2023, 5, 5), 1);
        Checks.due("26 fewest clashes at first", 0, x.sing(1600, 1, 2));
        Checks.due("26 the other one", 1, x.sing(1600, 1, 9));
        Checks.due("26 as many services, fewest clashes", 0, x.sing(1700, 1, 3));
        Checks.due("26 the only one with the theme", 1, x.sing(1701, 5, 5));
        Checks.due("26 that again", 1, x.sing(1702, 5, 5));
        Checks.due("28 two services", 2, x.sung(0));
        Checks.due("28 three services", 3, x.sung(1));
        Checks.due("26 one service more", 1, x.sing(2023, 1, 1));
        Checks.due("26 the other one, while that is sung LATELY", 0, x.sing(2023, 1, 8));
        Checks.due("26 one service more still", 1, x.sing(2399, 1, 3));
    }

    /** "of several that with the fewest clashes with its tune": by one, ahead of numbers. */
    private static void fewestClashesByOne() {
        for (int fewest = 0; fewest < 12; fewest++) {
            Hymnwright x = withSundays();
            for (int i = 0; i < 12; i++) {
                addText(x, 1500, 1, i == fewest ? 0b00111111111 : 0b01111111111);
            }
            addTune(x, 1500, 0b10000000000);
            Checks.due("26 fewest by one, of number " + fewest, fewest, x.sing(2023, 1, 1));
            Checks.due("27 its clashes", 10, x.service(0, 4));
            Checks.due("26 then the lowest number", fewest == 0 ? 1 : 0, x.sing(2023, 1, 8));
            Checks.due("27 one clash more", 11, x.service(1, 4));
        }
    }

    /** "of several the one with the lowest number": of twelve, one after the other. */
    private static void lowestNumber() {
        Hymnwright x = withSundays();
        for (int i = 0; i < 12; i++) {
            addText(x, 1500, 1, 1 << i);
        }
        addTune(x, 1500, 0);
        for (int i = 0; i < 5; i++) {
            Checks.due("26 text " + i, i, sing(x, LocalDate.of(2023, 1, 1).plusWeeks(i)));
        }
        Checks.due("26 the first one, of one service", 0, sing(x, LocalDate.of(2023, 2, 5)));
        Checks.due("26 the second one, of one service", 1, sing(x, LocalDate.of(2023, 2, 12)));
        Checks.due("26 the first one, of two", 0, sing(x, LocalDate.of(2025, 2, 2)));
    }

    /** The clashes are those with the tune of that year, not with the best one. */
    private static void clashesWithItsTune() {
        Hymnwright x = withSundays();
        addText(x, 1500, 1, 0b111);
        addText(x, 1500, 1, 0b001);
        addTune(x, 1952, 0b111);
        addTune(x, 1500, 0);
        Checks.due("26 the best tune of the text 0 is not FREE", 1, x.sing(2022, 1, 2));
        Checks.due("27 the tune that is FREE", 1, x.service(0, 1));
        Checks.due("26 the text 0 with the tune that is FREE", 0, x.sing(2022, 1, 9));
        Checks.due("27 its clashes", 3, x.service(1, 4));
        Checks.due("26 the best tune of the text 0 is FREE", 0, x.sing(2023, 2, 12));
        Checks.due("27 the tune that is FREE by now", 0, x.service(2, 1));
        Checks.due("27 no clashes", 0, x.service(2, 4));
    }

    /** "its tune is, of those that fit it and are FREE in that year, that with the fewest clashes". */
    private static void anyOfTwelveTunes() {
        for (int fewest = 0; fewest < 12; fewest++) {
            Hymnwright x = withSundays();
            addText(x, 1500, 1, 0);
            for (int i = 0; i < 12; i++) {
                addTune(x, 1500, i == fewest ? 0b011 : 0b111);
            }
            x.sing(2023, 1, 1);
            Checks.due("27 fewest by one, of tune " + fewest, fewest, x.service(0, 1));
            Checks.due("27 its clashes, of tune " + fewest, 2, x.service(0, 4));
            x.phrase(fewest, 1, 0);
            x.sing(2023, 2, 5);
            Checks.due("27 the lowest number without tune " + fewest, fewest == 0 ? 1 : 0, x.service(1, 1));
            Checks.due("27 one clash more without tune " + fewest, 3, x.service(1, 4));
        }
    }

    private static void tunesThatAreFree() {
        Hymnwright x = withSundays();
        addText(x, 1500, 1, 0);
        addTune(x, 1953, 0);
        addTune(x, 1952, 1);
        addTune(x, 1500, 3);
        x.sing(2022, 1, 2);
        Checks.due("27 70 years behind the second one", 2, x.service(0, 1));
        x.sing(2023, 1, 1);
        Checks.due("27 71 years behind the second one", 1, x.service(1, 1));
        x.allowTune(0, true);
        x.sing(2023, 2, 5);
        Checks.due("27 the first one is allowed", 0, x.service(2, 1));
        x.allowTune(0, false);
        x.sing(2023, 3, 12);
        Checks.due("27 the first one is not any more", 1, x.service(3, 1));
        x.sing(2024, 1, 7);
        Checks.due("27 71 years behind the first one", 0, x.service(4, 1));
    }

    /** "Services are numbered from 0, at most 60". */
    private static void sixtyServices() {
        Hymnwright x = withSundays();
        for (int i = 0; i < 12; i++) {
            addText(x, 1500, 1, 0);
        }
        addTune(x, 1500, 0);
        LocalDate first = LocalDate.of(2023, 1, 1);
        for (int i = 0; i < 60; i++) {
            int behind = i;
            Checks.index("27 not held yet " + i, () -> x.service(behind, 0));
            Checks.due("26 service " + i, i % 5, sing(x, first.plusWeeks(i)));
            Checks.due("27 year of service " + i, first.plusWeeks(i).getYear(), x.service(i, 2));
        }
        LocalDate next = first.plusWeeks(60);
        Checks.due("25 a text could be chosen", 0, why(x, 11, next));
        Checks.state("26 a sixty-first", () -> sing(x, next));
        Checks.state("26 a sixty-first, years behind", () -> x.sing(2399, 12, 26));
        Checks.index("27 no sixty-first", () -> x.service(60, 0));
        Checks.due("25 no text is LATELY by it", 0, why(x, 11, next));
        Checks.due("27 the first of sixty", 101, x.service(0, 3));
        Checks.due("27 the last of sixty", 218, x.service(59, 3));
    }

    /** The January 1, 1600, and the December 31, 2399. */
    private static void firstAndLastDays() {
        Hymnwright x = new Hymnwright();
        addText(x, 1500, 1, 0);
        addTune(x, 1500, 0);
        addDay(x, LocalDate.of(2000, 1, 1), 0);
        addDay(x, LocalDate.of(2000, 12, 31), 0);
        Checks.due("25 the first day of all", 0, x.why(0, 1600, 1, 1));
        Checks.due("26 the first day of all", 0, x.sing(1600, 1, 1));
        Checks.due("25 the first day of all again", 4, x.why(0, 1600, 1, 1));
        Checks.due("26 the last day of all", 0, x.sing(2399, 12, 31));
        Checks.due("25 the last day of all again", 4, x.why(0, 2399, 12, 31));
        Checks.state("26 no day is behind the last", () -> x.sing(2399, 12, 31));
        Checks.due("27 the first year", 1600, x.service(0, 2));
        Checks.due("27 the first day", 101, x.service(0, 3));
        Checks.due("27 the last year", 2399, x.service(1, 2));
        Checks.due("27 the last day", 1231, x.service(1, 3));
    }

    /** "the clashes, by the text and tune as they are now, NONE if that tune does not fit any more". */
    private static void clashesAsTheyAreNow() {
        Hymnwright x = withSundays();
        addText(x, 1500, 1, 4095);
        addTune(x, 1500, 0);
        x.sing(2023, 1, 1);
        Checks.due("27 as many as one line has", 12, x.service(0, 4));
        for (int lines = 2; lines <= 8; lines++) {
            x.line(0, 12, 4095);
            Checks.due("27 a line more, " + lines, lines == 2 ? 24 : NONE, x.service(0, 4));
        }
        for (int phrases = 2; phrases <= 8; phrases++) {
            x.phrase(0, 12, 0);
            Checks.due("27 a phrase more, " + phrases, phrases == 4 || phrases == 8 ? 96 : NONE, x.service(0, 4));
        }
        Hymnwright y = withSundays();
        addText(y, 1500, 1, 0);
        addTune(y, 1500, 0);
        y.sing(2023, 1, 1);
        Checks.due("27 no clashes", 0, y.service(0, 4));
        y.phrase(0, 12, 0);
        Checks.due("27 a phrase more", NONE, y.service(0, 4));
        Checks.due("27 its text still", 0, y.service(0, 0));
        Checks.due("27 its tune still", 0, y.service(0, 1));
        Checks.due("27 its year still", 2023, y.service(0, 2));
        Checks.due("27 its day still", 101, y.service(0, 3));
        Checks.due("28 its service still", 1, y.sung(0));
    }

    /** "NONE if that tune does not fit any more", whoever may sing it: rights that end do not count. */
    private static void clashesBehindTheRights() {
        Hymnwright x = withSundays();
        addText(x, 2399, 1, 0b111);
        addTune(x, 2399, 0);
        x.allowText(0, true);
        x.allowTune(0, true);
        x.sing(2023, 1, 1);
        x.allowText(0, false);
        Checks.due("27 its clashes, the text not allowed any more", 3, x.service(0, 4));
        x.allowTune(0, false);
        Checks.due("27 its clashes, the tune not allowed any more", 3, x.service(0, 4));
        Checks.due("27 its tune, not allowed any more", 0, x.service(0, 1));
        Checks.due("28 its service, not allowed any more", 1, x.sung(0));
        x.line(0, 12, 0b111);
        Checks.due("27 its clashes, sung twice by now", 6, x.service(0, 4));
    }

    /** "0 its text, 1 its tune, both as they were chosen". */
    private static void tuneAsItWasChosen() {
        Hymnwright x = withSundays();
        addText(x, 1500, 1, 1);
        addTune(x, 1500, 0);
        x.sing(2023, 1, 1);
        addText(x, 1500, 1, 0);
        addTune(x, 1500, 1);
        Checks.due("8 a better one by now", 1, x.best(0));
        Checks.due("27 the text that was chosen", 0, x.service(0, 0));
        Checks.due("27 the tune that was chosen", 0, x.service(0, 1));
        Checks.due("27 its clashes", 1, x.service(0, 4));
        x.reading(SUNDAY, 1, 5);
        x.sundays(9);
        x.feast(9, false, 1, 1);
        Checks.due("27 the text, whatever the day is by now", 0, x.service(0, 0));
        Checks.due("28 and its service", 1, x.sung(0));
        Checks.due("28 and none of the other text", 0, x.sung(1));
    }

    /** "how many services a text was in": none to 60, of the first and the last text. */
    private static void sungNoneToSixty() {
        for (int only = 0; only <= 11; only += 11) {
            Hymnwright x = withSundays();
            for (int i = 0; i < 12; i++) {
                addText(x, 1500, i == only ? 1 : 0, 0);
            }
            addTune(x, 1500, 0);
            for (int i = 0; i < 60; i++) {
                Checks.due("28 ahead of service " + i, i, x.sung(only));
                Checks.due("26 29 days behind at least " + i, only, sing(x, LocalDate.of(2000, 1, 2).plusWeeks(5 * i)));
            }
            for (int i = 0; i < 12; i++) {
                Checks.due("28 all sixty of text " + only + ", text " + i, i == only ? 60 : 0, x.sung(i));
            }
        }
    }

    /** "An object is used for at most 512 calls": with as much told as there may be, the last one still answers. */
    private static void theLastCallThatIsPromised() {
        Hymnwright x = withSundays();
        int made = 3;
        for (int i = 0; i < 12; i++) {
            x.text(1500, 1);
            x.tune(1500, 0, 40);
            for (int row = 0; row < 8; row++) {
                x.line(i, 12, i);
                x.phrase(i, 12, 4095);
            }
            made += 18;
        }
        for (int i = 0; i < 20; i++) {
            int feast = x.feast(1, true, 12, 12);
            read(x, feast, 0);
            made += 4;
        }
        x.sundays(9);
        made++;
        for (int i = 0; i < 60; i++) {
            sing(x, LocalDate.of(2023, 1, 1).plusWeeks(i));
            made++;
        }
        while (made < Made.MOST_CALLS - 1) {
            Checks.due("24 call " + made, 0, x.theme(2023, 1, 1));
            made++;
        }
        // The text 7 has three stressed syllables in each line, and all notes are strong.
        Checks.due("7 the last call", 72, x.clashes(7, 11));
    }
}
