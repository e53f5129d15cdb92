import java.time.DayOfWeek;
import java.time.LocalDate;

/** Promises 14 to 23. */
final class YearsAndFeastsTest {
    private static final int MIN = Integer.MIN_VALUE;
    private static final int MAX = Integer.MAX_VALUE;
    private static final int NONE = Hymnwright.NONE;
    private static final int SUNDAY = Hymnwright.SUNDAY;
    private static final int[][] NO_DAYS = {
        {1599, 12, 31}, {2400, 1, 1}, {2000, 0, 1}, {2000, 13, 1}, {2000, -1, 1}, {2000, 1, 0}, {2000, 1, 32},
        {2000, 4, 31}, {2000, 6, 31}, {2000, 9, 31}, {2000, 11, 31}, {2000, 2, 30}, {2001, 2, 29}, {1900, 2, 29},
        {2000, 12, 32}, {2000, 1, -1}, {MIN, 1, 1}, {MAX, 1, 1}, {2000, MIN, 1}, {2000, MAX, 1}, {2000, 1, MIN},
        {2000, 1, MAX}};

    public static void main(String[] args) {
        easters();
        weekdays();
        telling();
        rankOfSundays();
        readings();
        keeping();
        puttingOff();
        ends();
        leapDays();
        movingFeasts();
        wrongInputs();
        Checks.finish();
    }

    private static void easters() {
        Hymnwright x = new Hymnwright();
        // Known ones, the earliest and the latest ones, and those for which 24 and 25 are excepted.
        int[][] known = {{1600, 402}, {1609, 419}, {1666, 425}, {1693, 322}, {1761, 322}, {1818, 322}, {1886, 425},
            {1943, 425}, {1954, 418}, {1981, 419}, {2000, 423}, {2016, 327}, {2019, 421}, {2024, 331}, {2025, 420},
            {2026, 405}, {2038, 425}, {2049, 418}, {2076, 419}, {2285, 322}};
        for (int[] pair : known) {
            Checks.due("14 easter " + pair[0], pair[1], x.easter(pair[0]));
            Checks.due("15 easterAnew " + pair[0], pair[1], x.easterAnew(pair[0]));
        }
        for (int year = 1600; year <= 2399; year++) {
            int want = easterByTheMoon(year);
            Hymnwright y = new Hymnwright();
            Checks.due("14 easter " + year, want, y.easter(year));
            Checks.due("15 easterAnew " + year, want, y.easterAnew(year));
        }
        for (int year : new int[] {1599, 2400, 0, -1, MIN, MAX}) {
            Checks.range("14 year " + year, () -> x.easter(year));
            Checks.range("15 year " + year, () -> x.easterAnew(year));
        }
    }

    /** Gauss's full moon, and the Sunday behind it: a third way, by looking. */
    private static int easterByTheMoon(int year) {
        int golden = year % 19;
        int century = year / 100;
        int shift = Math.floorMod(15 - (13 + 8 * century) / 25 + century - century / 4, 30);
        int moon = (19 * golden + shift) % 30;
        if (moon == 29 || moon == 28 && golden > 10) {
            moon--;
        }
        LocalDate day = LocalDate.of(year, 3, 21).plusDays(moon);
        do {
            day = day.plusDays(1);
        } while (day.getDayOfWeek() != DayOfWeek.SUNDAY);
        return monthAndDay(day);
    }

    private static int monthAndDay(LocalDate day) {
        return 100 * day.getMonthValue() + day.getDayOfMonth();
    }

    private static void weekdays() {
        Hymnwright x = new Hymnwright();
        Checks.due("16 the January 1, 2000", 6, x.weekday(2000, 1, 1));
        Checks.due("16 the first day", 6, x.weekday(1600, 1, 1));
        Checks.due("16 the last day", 5, x.weekday(2399, 12, 31));
        for (int year : new int[] {1600, 1601, 1604, 1699, 1700, 1701, 1800, 1900, 1999, 2000, 2001, 2023, 2100, 2399}) {
            Hymnwright y = new Hymnwright();
            LocalDate day = LocalDate.of(year, 1, 1);
            while (day.getYear() == year) {
                Checks.due("16 " + day, day.getDayOfWeek().getValue() % 7,
                        y.weekday(year, day.getMonthValue(), day.getDayOfMonth()));
                day = day.plusDays(1);
            }
        }
        for (int year = 1600; year <= 2399; year++) {
            Checks.due("16 March 1, " + year, LocalDate.of(year, 3, 1).getDayOfWeek().getValue() % 7,
                    new Hymnwright().weekday(year, 3, 1));
        }
        for (int[] day : NO_DAYS) {
            Checks.range("16 " + name(day), () -> x.weekday(day[0], day[1], day[2]));
        }
    }

    private static String name(int[] day) {
        return day[0] + "-" + day[1] + "-" + day[2];
    }

    private static void telling() {
        Hymnwright x = new Hymnwright();
        for (int rank : new int[] {0, 10, -1, MIN, MAX}) {
            Checks.range("17 rank " + rank, () -> x.feast(rank, true, 1, 1));
            Checks.range("18 rank " + rank, () -> x.moving(rank, true, 0));
        }
        int[][] noDays = {{0, 1}, {13, 1}, {1, 0}, {1, 32}, {2, 30}, {4, 31}, {6, 31}, {9, 31}, {11, 31}, {12, 32},
            {MIN, 1}, {MAX, 1}, {1, MIN}, {1, MAX}, {-1, 1}, {1, -1}};
        for (int[] day : noDays) {
            Checks.range("17 " + day[0] + "-" + day[1], () -> x.feast(5, false, day[0], day[1]));
        }
        for (int days : new int[] {-61, 61, MIN, MAX}) {
            Checks.range("18 days " + days, () -> x.moving(5, false, days));
        }
        Checks.due("17 first", 0, x.feast(1, false, 2, 29));
        Checks.due("18 numbered with the fixed ones", 1, x.moving(9, true, -60));
        Checks.due("17 numbered with the moving ones", 2, x.feast(9, true, 12, 31));
        Checks.due("18 next", 3, x.moving(1, false, 60));
        for (int i = 4; i < 20; i++) {
            Checks.due("17 next", i, i % 2 == 0 ? x.feast(1, false, i % 12 + 1, i) : x.moving(2, true, i));
        }
        Checks.state("17 a twenty-first", () -> x.feast(1, false, 1, 1));
        Checks.state("18 a twenty-first", () -> x.moving(1, false, 1));
        Checks.range("17 rank first", () -> x.feast(0, false, 1, 1));
        Checks.range("17 day first", () -> x.feast(1, false, 2, 30));
        Checks.range("18 rank first", () -> x.moving(10, false, 1));
        Checks.range("18 days first", () -> x.moving(1, false, 61));
        Checks.index("17 no twenty-first", () -> x.when(20, 2000));
    }

    private static void rankOfSundays() {
        Hymnwright x = new Hymnwright();
        Checks.due("19 0 at first", 0, x.sundays(9));
        Checks.due("19 the one before", 9, x.sundays(4));
        for (int rank : new int[] {-1, 10, MIN, MAX}) {
            Checks.range("19 rank " + rank, () -> x.sundays(rank));
        }
        Checks.due("19 unchanged by a throw", 4, x.sundays(0));
    }

    private static void readings() {
        Hymnwright x = new Hymnwright();
        x.feast(5, false, 1, 1);
        x.feast(5, false, 1, 2);
        for (int feast : new int[] {0, 1, SUNDAY}) {
            for (int cycle = 0; cycle < 3; cycle++) {
                Checks.due("20 none at first", NONE, x.reading(feast, cycle, feast + 5 + cycle));
            }
        }
        for (int feast : new int[] {0, 1, SUNDAY}) {
            for (int cycle = 0; cycle < 3; cycle++) {
                Checks.due("20 the one before", feast + 5 + cycle, x.reading(feast, cycle, NONE));
                Checks.due("20 none any more", NONE, x.reading(feast, cycle, 15));
                Checks.due("20 15", 15, x.reading(feast, cycle, 0));
                Checks.due("20 0", 0, x.reading(feast, cycle, 3));
            }
        }
        for (int feast : new int[] {-1, -3, 2, 20, NONE, MIN, MAX}) {
            Checks.index("20 feast " + feast, () -> x.reading(feast, 0, 0));
            Checks.index("20 feast first " + feast, () -> x.reading(feast, 3, 16));
        }
        for (int cycle : new int[] {-1, 3, MIN, MAX}) {
            Checks.range("20 cycle " + cycle, () -> x.reading(0, cycle, 0));
            Checks.range("20 cycle of Sundays " + cycle, () -> x.reading(SUNDAY, cycle, NONE));
        }
        for (int theme : new int[] {-1, 16, -99, -101, SUNDAY, MIN, MAX}) {
            Checks.range("20 theme " + theme, () -> x.reading(0, 0, theme));
            Checks.range("20 theme of Sundays " + theme, () -> x.reading(SUNDAY, 0, theme));
        }
        Checks.due("20 unchanged by a throw", 3, x.reading(0, 0, NONE));
    }

    private static void both(String what, int want, Hymnwright x, int feast, int year) {
        Checks.due("22 " + what, want, x.when(feast, year));
        Checks.due("23 " + what, want, x.whenAnew(feast, year));
    }

    private static void keeping() {
        Hymnwright x = new Hymnwright();
        Checks.due("21 a Sunday", SUNDAY, x.kept(2023, 1, 1));
        Checks.due("21 nothing", NONE, x.kept(2023, 1, 2));
        x.feast(3, false, 1, 1);
        Checks.due("21 a feast on a Sunday", 0, x.kept(2023, 1, 1));
        x.sundays(3);
        Checks.due("21 a feast of the rank of Sundays", 0, x.kept(2023, 1, 1));
        x.sundays(4);
        Checks.due("21 a feast of a lesser rank", SUNDAY, x.kept(2023, 1, 1));
        both("left out on a Sunday", NONE, x, 0, 2023);
        Checks.due("21 on another day", 0, x.kept(2024, 1, 1));
        both("on another day", 101, x, 0, 2024);
        x.feast(3, false, 1, 1);
        Checks.due("21 of one rank by their numbers", 0, x.kept(2024, 1, 1));
        both("the other one is left out", NONE, x, 1, 2024);
        x.feast(4, false, 1, 1);
        Checks.due("21 a greater rank", 2, x.kept(2024, 1, 1));
        Checks.due("21 a greater rank on a Sunday", 2, x.kept(2023, 1, 1));
        both("a lesser rank is left out", NONE, x, 0, 2024);
        both("a greater rank", 101, x, 2, 2023);
    }

    private static void puttingOff() {
        Hymnwright x = new Hymnwright();
        x.feast(5, true, 1, 1);
        x.feast(5, true, 1, 1);
        x.feast(6, false, 1, 2);
        both("first of one rank", 101, x, 0, 2024);
        both("put off behind the next", 103, x, 1, 2024);
        Checks.due("21 the day that it was put onto", 1, x.kept(2024, 1, 3));
        x.feast(2, false, 1, 3);
        both("a lesser rank finds it taken", NONE, x, 3, 2024);
        x.sundays(6);
        both("put off from the Sunday, and over a feast", 103, x, 0, 2023);
        both("put off behind both", 104, x, 1, 2023);
        both("of the rank of Sundays", 102, x, 2, 2022);
        x.sundays(7);
        both("below the rank of Sundays", NONE, x, 2, 2022);
        both("put off over a Sunday", 109, threeOnSaturday(), 2, 2024);
    }

    /** Three feasts on the Saturday January 6, 2024: the Sunday behind it is shut, the Monday is taken. */
    private static Hymnwright threeOnSaturday() {
        Hymnwright x = new Hymnwright();
        x.sundays(9);
        x.feast(8, true, 1, 6);
        x.feast(8, true, 1, 6);
        x.feast(8, true, 1, 6);
        return x;
    }

    private static void ends() {
        Hymnwright x = new Hymnwright();
        x.feast(9, false, 12, 31);
        x.feast(3, true, 12, 31);
        x.feast(3, true, 12, 30);
        x.feast(2, true, 12, 30);
        both("no day is left in the year", NONE, x, 1, 2021);
        both("own day", 1230, x, 2, 2021);
        both("both days are taken", NONE, x, 3, 2021);
        Checks.due("21 not in the year behind", NONE, x.kept(2022, 1, 1));
        // A row of twenty feasts on one day takes twenty days; with all Sundays shut, twenty-three.
        Hymnwright y = new Hymnwright();
        for (int i = 0; i < 20; i++) {
            y.feast(1, true, 5, 1);
        }
        both("the last of a row", 520, y, 19, 2023);
        y.sundays(2);
        both("the last of a row without Sundays", 523, y, 19, 2023);
        Checks.due("21 the Sunday in the row", SUNDAY, y.kept(2023, 5, 7));
        lastDays();
    }

    /** The 30 days themselves bind no run: 19 feasts and 5 Sundays leave one of them. The year's end binds. */
    private static void lastDays() {
        Hymnwright y = new Hymnwright();
        for (int i = 0; i < 20; i++) {
            y.feast(1, true, 12, 12);
        }
        both("the last one with a day in the year", 1231, y, 19, 2023);
        Hymnwright z = new Hymnwright();
        for (int i = 0; i < 20; i++) {
            z.feast(1, true, 12, 13);
        }
        both("one more is left out", NONE, z, 19, 2023);
        both("the one ahead of it is not", 1231, z, 18, 2023);
    }

    private static void leapDays() {
        Hymnwright x = new Hymnwright();
        x.feast(9, true, 2, 29);
        both("a leap year", 229, x, 0, 2024);
        both("divided by 400", 229, x, 0, 2000);
        both("none without the day, also put off", NONE, x, 0, 2023);
        both("none in 1900", NONE, x, 0, 1900);
        Checks.due("21 not the March 1", NONE, x.kept(2023, 3, 1));
        x.feast(9, false, 3, 1);
        both("March 1 in a leap year", 301, x, 1, 2024);
        both("March 1 in another year", 301, x, 1, 2023);
        x.feast(8, true, 2, 28);
        x.feast(7, true, 2, 28);
        both("put off to the leap day and beyond", 302, x, 3, 2024);
        both("put off without a leap day", 302, x, 3, 2023);
        x.feast(9, false, 12, 31);
        both("the last day of a leap year", 1231, x, 4, 2024);
        both("the last day of another year", 1231, x, 4, 2023);
        Checks.due("21 the last day of a leap year", 4, x.kept(2024, 12, 31));
    }

    private static void movingFeasts() {
        Hymnwright x = new Hymnwright();
        int[] days = {0, -2, 1, 39, 49, 60, -46, -60};
        for (int i = 0; i < days.length; i++) {
            x.moving(9 - i, false, days[i]);
        }
        int[] years = {1600, 1700, 1818, 1900, 1943, 2000, 2008, 2023, 2024, 2038, 2285, 2399};
        for (int year : years) {
            int easter = x.easter(year);
            LocalDate day = LocalDate.of(year, easter / 100, easter % 100);
            for (int i = 0; i < days.length; i++) {
                both("Easter and " + days[i] + " in " + year, monthAndDay(day.plusDays(days[i])), x, i, year);
            }
        }
        Checks.due("21 Easter", 0, x.kept(2024, 3, 31));
        Checks.due("21 Easter is a Sunday of a lesser rank", SUNDAY, lesserEaster(false).kept(2024, 3, 31));
        both("Easter of a lesser rank", NONE, lesserEaster(false), 0, 2024);
        both("Easter of a lesser rank put off", 401, lesserEaster(true), 0, 2024);
    }

    private static Hymnwright lesserEaster(boolean isPutOff) {
        Hymnwright x = new Hymnwright();
        x.sundays(6);
        x.moving(5, isPutOff, 0);
        return x;
    }

    private static void wrongInputs() {
        Hymnwright x = new Hymnwright();
        x.feast(5, false, 1, 1);
        for (int[] day : NO_DAYS) {
            Checks.range("21 " + name(day), () -> x.kept(day[0], day[1], day[2]));
        }
        for (int feast : new int[] {-1, 1, 20, SUNDAY, NONE, MIN, MAX}) {
            Checks.index("22 feast " + feast, () -> x.when(feast, 2000));
            Checks.index("23 feast " + feast, () -> x.whenAnew(feast, 2000));
            Checks.index("22 feast first " + feast, () -> x.when(feast, 1599));
            Checks.index("23 feast first " + feast, () -> x.whenAnew(feast, 2400));
        }
        for (int year : new int[] {1599, 2400, MIN, MAX}) {
            Checks.range("22 year " + year, () -> x.when(0, year));
            Checks.range("23 year " + year, () -> x.whenAnew(0, year));
        }
        both("the first year", 101, x, 0, 1600);
        both("the last year", 101, x, 0, 2399);
    }
}
