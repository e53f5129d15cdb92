import java.time.LocalDate;

/**
 * The edges that the document names in the promises 14 to 23, each behind its sentence: the last values that are
 * allowed, none, and as many as there may be. What is refused beyond them stands in RefusedCallsTest.
 */
final class YearsAndFeastsEdgesTest {
    private static final int NONE = Hymnwright.NONE;
    private static final int SUNDAY = Hymnwright.SUNDAY;
    private static final int[] LEAP_YEARS = {1600, 1604, 1696, 1704, 1796, 1896, 1904, 2000, 2024, 2096, 2104, 2396};
    private static final int[] OTHER_YEARS = {1601, 1602, 1603, 1700, 1800, 1900, 2100, 2200, 2300, 2023, 2398, 2399};

    public static void main(String[] args) {
        easterInTheFirstAndLastYear();
        easterEarliestAndLatest();
        easterOfMarchAndApril();
        easterExceptions();
        weekdaysOverTheMonths();
        weekdaysOverTheYears();
        weekdaysOfLeapDays();
        lastDaysOfMonths();
        leapDayFeasts();
        sixtyDaysFromEaster();
        twentyFeasts();
        sundayRanks();
        sundaysAtFirst();
        everySundayOfAYear();
        ranksOneToNine();
        numbersOfOneRank();
        numbersAheadOfOwnDays();
        notPutOff();
        putOffByOneToTwentyThree();
        putOffFromEaster();
        putOffOntoEaster();
        putOffFromTheLastDays();
        putOffNotAhead();
        firstAndLastDays();
        foundByAllThatIsToldByNow();
        readingsOfAll();
        whenAnewAlone();
        whenOfNone();
        Checks.finish();
    }

    private static void easter(String what, int want, int year) {
        Checks.due("14 " + what + ", " + year, want, new Hymnwright().easter(year));
        Checks.due("15 " + what + ", " + year, want, new Hymnwright().easterAnew(year));
    }

    /** Both ways of asking, each as the first call of its year. */
    private static void both(String what, int want, Hymnwright x, int feast, int year) {
        Checks.due("23 " + what + ", " + year, want, x.whenAnew(feast, year));
        x.kept(year == 1999 ? 1998 : 1999, 7, 1);
        Checks.due("22 " + what + ", " + year, want, x.when(feast, year));
    }

    private static int monthAndDay(LocalDate day) {
        return 100 * day.getMonthValue() + day.getDayOfMonth();
    }

    private static int kept(Hymnwright x, LocalDate day) {
        return x.kept(day.getYear(), day.getMonthValue(), day.getDayOfMonth());
    }

    /** "Years are 1600 to 2399". */
    private static void easterInTheFirstAndLastYear() {
        easter("the first year", 402, 1600);
        easter("the second year", 422, 1601);
        easter("the last but one", 405, 2398);
        easter("the last year", 328, 2399);
        for (int year : new int[] {1599, 2400}) {
            Checks.range("14 year " + year, () -> new Hymnwright().easter(year));
            Checks.range("15 year " + year, () -> new Hymnwright().easterAnew(year));
        }
    }

    /** The March 22 is the earliest, "30 more, if that is below 21"; the April 25 the latest. */
    private static void easterEarliestAndLatest() {
        for (int year : new int[] {1693, 1761, 1818, 2285, 2353}) {
            easter("the earliest", 322, year);
        }
        for (int year : new int[] {1636, 1704, 1788, 1845, 1856, 1913, 2008, 2160, 2228, 2380}) {
            easter("the earliest but one", 323, year);
        }
        for (int year : new int[] {1639, 1707, 1791, 1859, 2011, 2095, 2163, 2231, 2383}) {
            easter("the latest but one", 424, year);
        }
        for (int year : new int[] {1666, 1734, 1886, 1943, 2038, 2190, 2258, 2326}) {
            easter("the latest", 425, year);
        }
    }

    /** "one above 31 is that day, less 31, of April". */
    private static void easterOfMarchAndApril() {
        for (int year : new int[] {1619, 1839, 1991, 2002, 2013, 2024}) {
            easter("the last day of March", 331, year);
        }
        for (int year : new int[] {1646, 1866, 1923, 1934, 1945, 1956, 2018}) {
            easter("the first day of April", 401, year);
        }
    }

    /** "it is 1 more, if it is 24, or if it is 25 and the golden number is above 11". */
    private static void easterExceptions() {
        int[][] ofTwentyFour = {{1609, 419}, {1924, 420}, {1962, 422}, {1981, 419}, {2000, 423}, {2019, 421}};
        int[][] aboveEleven = {{1916, 423}, {1954, 418}, {1992, 419}, {2049, 418}, {2106, 418}, {2125, 422}};
        int[][] upToEleven = {{1715, 421}, {1734, 425}, {1886, 425}, {2307, 421}, {2326, 425}, {2364, 419}};
        for (int i = 0; i < 6; i++) {
            easter("24", ofTwentyFour[i][1], ofTwentyFour[i][0]);
            easter("25 and above 11", aboveEleven[i][1], aboveEleven[i][0]);
            easter("25 and not above 11", upToEleven[i][1], upToEleven[i][0]);
        }
    }

    /** "day: 1 to 31, as many as the month has in that year": the last of each month, and the first of the next. */
    private static void weekdaysOverTheMonths() {
        for (int[] years : new int[][] {LEAP_YEARS, OTHER_YEARS}) {
            for (int year : years) {
                Hymnwright x = new Hymnwright();
                for (int month = 1; month <= 12; month++) {
                    int asked = month;
                    LocalDate first = LocalDate.of(year, month, 1);
                    int length = first.lengthOfMonth();
                    int weekday = first.getDayOfWeek().getValue() % 7;
                    Checks.due("16 the first of " + first, weekday, x.weekday(year, month, 1));
                    Checks.due("16 the last of " + first, (weekday + length - 1) % 7, x.weekday(year, month, length));
                    Checks.range("16 none ahead of " + first, () -> x.weekday(year, asked, 0));
                    Checks.range("16 none behind " + first, () -> x.weekday(year, asked, length + 1));
                }
            }
        }
    }

    /** From the December 31 to the January 1 of all years, the first and the last of all. */
    private static void weekdaysOverTheYears() {
        Hymnwright x = new Hymnwright();
        Checks.due("16 the first day of all", 6, x.weekday(1600, 1, 1));
        Checks.due("16 the last day of all", 5, x.weekday(2399, 12, 31));
        Checks.due("16 the January 1, 2000", 6, x.weekday(2000, 1, 1));
        Checks.due("16 the day ahead of it", 5, x.weekday(1999, 12, 31));
        for (int year = 1601; year <= 2399; year++) {
            Hymnwright y = new Hymnwright();
            int last = y.weekday(year - 1, 12, 31);
            Checks.due("16 the January 1, " + year, (last + 1) % 7, y.weekday(year, 1, 1));
        }
    }

    /** "a year has a February 29 if it can be divided by 4, but not by 100, or by 400". */
    private static void weekdaysOfLeapDays() {
        for (int year = 1600; year <= 2399; year++) {
            int asked = year;
            Hymnwright x = new Hymnwright();
            int ahead = x.weekday(year, 2, 28);
            if (LocalDate.of(year, 1, 1).isLeapYear()) {
                Checks.due("16 February 29, " + year, (ahead + 1) % 7, x.weekday(year, 2, 29));
                Checks.due("16 behind February 29, " + year, (ahead + 2) % 7, x.weekday(year, 3, 1));
                Checks.range("16 February 30, " + year, () -> x.weekday(asked, 2, 30));
            } else {
                Checks.range("16 February 29, " + year, () -> x.weekday(asked, 2, 29));
                Checks.due("16 behind February 28, " + year, (ahead + 1) % 7, x.weekday(year, 3, 1));
            }
        }
    }

    /** "day: 1 to 31, as many as the month has at most". */
    private static void lastDaysOfMonths() {
        for (int month = 1; month <= 12; month++) {
            int asked = month;
            Hymnwright x = new Hymnwright();
            int length = LocalDate.of(2000, month, 1).lengthOfMonth();
            Checks.due("17 the first of month " + month, 0, x.feast(9, false, month, 1));
            Checks.due("17 the last of month " + month, 1, x.feast(9, false, month, length));
            Checks.range("17 none ahead of month " + month, () -> x.feast(9, false, asked, 0));
            Checks.range("17 none behind month " + month, () -> x.feast(9, false, asked, length + 1));
            for (int year : new int[] {1600, 2000, 2024, 2396}) {
                both("the first of month " + month, 100 * month + 1, x, 0, year);
                both("the last of month " + month, 100 * month + length, x, 1, year);
                Checks.due("21 the first of month " + month, 0, x.kept(year, month, 1));
                Checks.due("21 the last of month " + month, 1, x.kept(year, month, length));
            }
            for (int year : new int[] {1700, 2023, 2399}) {
                both("the last of month " + month, month == 2 ? NONE : 100 * month + length, x, 1, year);
            }
        }
    }

    /** "A feast of the February 29 has none in years without one; it is left out then, also if it can be put off." */
    private static void leapDayFeasts() {
        for (boolean isPutOff : new boolean[] {false, true}) {
            Hymnwright x = new Hymnwright();
            x.feast(9, isPutOff, 2, 29);
            x.feast(1, false, 3, 1);
            x.feast(1, false, 2, 28);
            for (int year : LEAP_YEARS) {
                both("a leap day", 229, x, 0, year);
                Checks.due("21 a leap day, " + year, 0, x.kept(year, 2, 29));
            }
            for (int year : OTHER_YEARS) {
                both("no leap day, put off " + isPutOff, NONE, x, 0, year);
                both("the day behind is free", 301, x, 1, year);
                both("the day ahead is free", 228, x, 2, year);
            }
        }
        Hymnwright y = new Hymnwright();
        y.sundays(9);
        y.feast(8, true, 2, 29);
        both("a leap day that is a Sunday, put off", 301, y, 0, 2004);
        both("a leap day that is no Sunday", 229, y, 0, 2000);
        Hymnwright z = new Hymnwright();
        z.sundays(9);
        z.feast(8, false, 2, 29);
        both("a leap day that is a Sunday", NONE, z, 0, 2004);
    }

    /** "-60 to 60: how many days behind Easter; ahead of it, if below 0". */
    private static void sixtyDaysFromEaster() {
        int[] days = {-60, -59, -1, 0, 1, 59, 60};
        int[] years = {1693, 1818, 2285, 1666, 1943, 2326, 2008, 2160, 2011, 1600, 2399, 2024};
        for (int year : years) {
            Hymnwright x = new Hymnwright();
            int easter = x.easter(year);
            LocalDate sunday = LocalDate.of(year, easter / 100, easter % 100);
            for (int i = 0; i < days.length; i++) {
                x.moving(5, false, days[i]);
                both("Easter and " + days[i], monthAndDay(sunday.plusDays(days[i])), x, i, year);
                Checks.due("21 Easter and " + days[i] + ", " + year, i, kept(x, sunday.plusDays(days[i])));
            }
        }
        Hymnwright x = new Hymnwright();
        x.moving(5, false, -60);
        x.moving(5, false, 60);
        both("60 ahead of the earliest", 121, x, 0, 1818);
        both("60 behind the latest", 624, x, 1, 1943);
        both("60 ahead, over a leap day", 123, x, 0, 2008);
        Checks.range("18 61 ahead", () -> x.moving(5, false, -61));
        Checks.range("18 61 behind", () -> x.moving(5, false, 61));
    }

    /** "Feasts are numbered from 0, at most 20", the fixed and the moving ones together. */
    private static void twentyFeasts() {
        Hymnwright x = new Hymnwright();
        for (int i = 0; i < 20; i++) {
            int behind = i;
            Checks.index("22 none behind, yet " + i, () -> x.when(behind, 2023));
            Checks.index("23 none behind, yet " + i, () -> x.whenAnew(behind, 2023));
            boolean isFixed = i % 2 == 0;
            Checks.due("17, 18 feast " + i, i, isFixed ? x.feast(9, false, 10, 1 + i) : x.moving(9, false, i));
        }
        Checks.state("17 a twenty-first", () -> x.feast(9, false, 10, 30));
        Checks.state("18 a twenty-first", () -> x.moving(9, false, 40));
        Checks.index("22 no twenty-first", () -> x.when(20, 2023));
        Checks.index("23 no twenty-first", () -> x.whenAnew(20, 2023));
        for (int i = 0; i < 20; i++) {
            both("feast " + i, i % 2 == 0 ? 1001 + i : monthAndDay(LocalDate.of(2023, 4, 9 + i)), x, i, 2023);
        }
    }

    /** "if it is a Sunday, the feast's rank is that of Sundays at least": all ranks, 1 to 9 and 0 to 9. */
    private static void sundayRanks() {
        for (int sundays = 0; sundays <= 9; sundays++) {
            Hymnwright x = new Hymnwright();
            Checks.due("19 from 0 to " + sundays, 0, x.sundays(sundays));
            for (int rank = 1; rank <= 9; rank++) {
                // January 1, 8, .. 29, and February 5, .. 26, 2023, are Sundays.
                LocalDate sunday = LocalDate.of(2023, 1, 1).plusWeeks(rank - 1);
                x.feast(rank, false, sunday.getMonthValue(), sunday.getDayOfMonth());
                x.feast(rank, true, sunday.getMonthValue(), sunday.getDayOfMonth());
                boolean isOpen = rank >= sundays;
                String what = "rank " + rank + " of Sundays of " + sundays;
                both(what, isOpen ? monthAndDay(sunday) : NONE, x, 2 * rank - 2, 2023);
                both(what + " put off", monthAndDay(sunday.plusDays(1)), x, 2 * rank - 1, 2023);
                Checks.due("21 " + what, isOpen ? 2 * rank - 2 : SUNDAY, kept(x, sunday));
            }
            Checks.due("19 still " + sundays, sundays, x.sundays(0));
        }
    }

    /** "Sundays have a rank, 0 to 9, 0 at first." */
    private static void sundaysAtFirst() {
        Hymnwright x = new Hymnwright();
        x.feast(1, false, 1, 1);
        Checks.due("21 the least rank on a Sunday", 0, x.kept(2023, 1, 1));
        Checks.due("19 0 at first", 0, x.sundays(1));
        Checks.due("21 as great as that of Sundays", 0, x.kept(2023, 1, 1));
        Checks.due("19 1 before", 1, x.sundays(2));
        Checks.due("21 below that of Sundays", SUNDAY, x.kept(2023, 1, 1));
        Checks.due("19 2 before", 2, x.sundays(9));
        Checks.due("19 9 before", 9, x.sundays(9));
        Checks.due("19 9 again", 9, x.sundays(0));
        Checks.due("19 0 again", 0, x.sundays(0));
    }

    /** "if it is a Sunday, the feast's rank is that of Sundays at least": whichever Sunday it is. */
    private static void everySundayOfAYear() {
        for (LocalDate day = LocalDate.of(2023, 1, 1); day.getYear() == 2023; day = day.plusWeeks(1)) {
            for (int rank = 1; rank <= 8; rank++) {
                Hymnwright x = new Hymnwright();
                x.feast(rank, false, day.getMonthValue(), day.getDayOfMonth());
                x.sundays(rank);
                both("the Sunday " + day + " of rank " + rank, monthAndDay(day), x, 0, 2023);
                x.sundays(rank + 1);
                both("the Sunday " + day + " above rank " + rank, NONE, x, 0, 2023);
                Checks.due("21 the Sunday " + day + " above rank " + rank, SUNDAY, kept(x, day));
            }
        }
    }

    /** "those of greater ranks first": by one, whichever was told first. */
    private static void ranksOneToNine() {
        for (int rank = 1; rank < 9; rank++) {
            for (int greater = 0; greater <= 1; greater++) {
                Hymnwright x = new Hymnwright();
                x.feast(greater == 0 ? rank + 1 : rank, true, 5, 5);
                x.feast(greater == 1 ? rank + 1 : rank, true, 5, 5);
                both("rank " + (rank + 1) + " told as " + greater, 505, x, greater, 2023);
                both("rank " + rank + " told as " + (1 - greater), 506, x, 1 - greater, 2023);
                Checks.due("21 rank " + (rank + 1) + " told as " + greater, greater, x.kept(2023, 5, 5));
            }
        }
        Hymnwright x = new Hymnwright();
        for (int rank = 1; rank <= 9; rank++) {
            x.feast(rank, true, 5, 5);
        }
        for (int rank = 1; rank <= 9; rank++) {
            both("rank " + rank + " of nine", 505 + 9 - rank, x, rank - 1, 2023);
        }
    }

    /** "of one rank by their numbers": twenty of them, fixed and moving. */
    private static void numbersOfOneRank() {
        Hymnwright x = new Hymnwright();
        for (int i = 0; i < 20; i++) {
            if (i % 2 == 0) {
                x.feast(4, false, 4, 9);
            } else {
                x.moving(4, false, 0);
            }
        }
        for (int i = 0; i < 20; i++) {
            both("feast " + i + " of twenty on one day", i == 0 ? 409 : NONE, x, i, 2023);
        }
        Checks.due("21 the lowest number", 0, x.kept(2023, 4, 9));
        Checks.due("21 none put off", NONE, x.kept(2023, 4, 10));
    }

    /** "if no feast was put there ahead of it": one that was put off takes a day, also the own day of a later one. */
    private static void numbersAheadOfOwnDays() {
        Hymnwright x = new Hymnwright();
        x.feast(5, true, 5, 8);
        x.feast(5, true, 5, 8);
        x.feast(5, false, 5, 9);
        x.feast(4, true, 5, 9);
        both("put off ahead of the number behind", 509, x, 1, 2023);
        both("its own day is taken", NONE, x, 2, 2023);
        both("put off behind both", 510, x, 3, 2023);
        Hymnwright y = new Hymnwright();
        y.feast(5, true, 5, 8);
        y.feast(5, false, 5, 9);
        y.feast(5, true, 5, 8);
        both("its own day, of the lower number", 509, y, 1, 2023);
        both("put off behind that", 510, y, 2, 2023);
        Hymnwright z = new Hymnwright();
        z.feast(5, true, 5, 8);
        z.feast(6, false, 5, 8);
        z.feast(6, false, 5, 9);
        both("put off behind those of a greater rank", 510, z, 0, 2023);
    }

    /** "otherwise it is left out": one that cannot be put off. */
    private static void notPutOff() {
        Hymnwright x = new Hymnwright();
        x.sundays(5);
        x.feast(4, false, 1, 1);
        x.feast(5, false, 1, 2);
        x.feast(4, false, 1, 2);
        x.moving(4, false, 0);
        both("a Sunday", NONE, x, 0, 2023);
        both("no Sunday", 101, x, 0, 2024);
        both("a day that is taken", NONE, x, 2, 2023);
        both("Easter", NONE, x, 3, 2024);
        Checks.due("21 the Sunday", SUNDAY, x.kept(2023, 1, 1));
        Checks.due("21 nothing behind", NONE, x.kept(2023, 1, 3));
        Checks.due("21 Easter, the Sunday", SUNDAY, x.kept(2024, 3, 31));
    }

    /** "on the first day that is open for it, of the 30 days behind its own": twenty from a Sunday reach 23. */
    private static void putOffByOneToTwentyThree() {
        for (int day = 1; day <= 7; day++) {
            LocalDate own = LocalDate.of(2023, 10, day);
            Hymnwright x = new Hymnwright();
            x.sundays(4);
            for (int i = 0; i < 20; i++) {
                x.feast(3, true, 10, day);
            }
            LocalDate due = own;
            for (int i = 0; i < 20; i++) {
                while (due.getDayOfWeek().getValue() == 7) {
                    Checks.due("21 the Sunday " + due, SUNDAY, kept(x, due));
                    due = due.plusDays(1);
                }
                both("feast " + i + " from " + own, monthAndDay(due), x, i, 2023);
                Checks.due("21 feast " + i + " from " + own, i, kept(x, due));
                due = due.plusDays(1);
            }
            Checks.due("21 none behind the last from " + own, false, kept(x, due) >= 0);
        }
        Hymnwright y = new Hymnwright();
        for (int i = 0; i < 20; i++) {
            y.feast(1, true, 2, 20);
        }
        both("over the leap day", 310, y, 19, 2024);
        both("on the leap day", 229, y, 9, 2024);
        both("without a leap day", 311, y, 19, 2023);
        both("behind the February 28", 301, y, 9, 2023);
    }

    /** Twenty that move, from Easter, and from days ahead of it and behind it: as far as fixed ones reach. */
    private static void putOffFromEaster() {
        for (int days : new int[] {-60, -1, 0, 1, 60}) {
            Hymnwright x = new Hymnwright();
            x.sundays(6);
            for (int i = 0; i < 20; i++) {
                x.moving(5, true, days);
            }
            for (int year : new int[] {1818, 2008, 2024, 2038}) {
                int easter = x.easter(year);
                LocalDate due = LocalDate.of(year, easter / 100, easter % 100).plusDays(days);
                for (int i = 0; i < 20; i++) {
                    due = due.getDayOfWeek().getValue() == 7 ? due.plusDays(1) : due;
                    Checks.due("22 feast " + i + " from " + days + " in " + year, monthAndDay(due), x.when(i, year));
                    Checks.due("21 feast " + i + " from " + days + " in " + year, i, kept(x, due));
                    due = due.plusDays(1);
                }
            }
        }
    }

    /** Easter is a Sunday as others are: for a feast that is put off, fixed or moving, it is open or not by ranks. */
    private static void putOffOntoEaster() {
        for (int sundays = 4; sundays <= 5; sundays++) {
            Hymnwright x = new Hymnwright();
            x.sundays(sundays);
            x.feast(9, false, 3, 30);
            x.feast(4, true, 3, 30);
            both("a fixed one put off from the day ahead of Easter", sundays == 4 ? 331 : 401, x, 1, 2024);
            x.moving(5, true, -1);
            both("a moving one put off from the day ahead of Easter", 331, x, 2, 2024);
            both("the fixed one behind it", 401, x, 1, 2024);
            x.moving(9, false, 0);
            both("Easter is taken", 401, x, 2, 2024);
            both("Easter and the day behind are taken", 402, x, 1, 2024);
            Checks.due("21 Easter", 3, x.kept(2024, 3, 31));
        }
    }

    /** "that are in the same year": of twenty from each of the last days, as many are kept as are left. */
    private static void putOffFromTheLastDays() {
        for (int year : new int[] {1600, 2023, 2024, 2399}) {
            for (int left = 1; left <= 20; left++) {
                Hymnwright x = new Hymnwright();
                for (int i = 0; i < 20; i++) {
                    x.feast(9, true, 12, 32 - left);
                }
                both("the last of " + left, 1231, x, left - 1, year);
                if (left < 20) {
                    both("behind the last of " + left, NONE, x, left, year);
                    both("the twentieth of " + left, NONE, x, 19, year);
                }
                if (year < 2399) {
                    int next = x.kept(year + 1, 1, 1);
                    Checks.due("21 none in the next year of " + left, false, next >= 0);
                }
            }
        }
        Hymnwright x = new Hymnwright();
        x.sundays(2);
        x.feast(1, true, 12, 31);
        both("the last day, a Sunday", NONE, x, 0, 2023);
        both("the last day, a Tuesday", 1231, x, 0, 2024);
    }

    /** Behind its own day alone: the days ahead of it stay free. */
    private static void putOffNotAhead() {
        Hymnwright x = new Hymnwright();
        x.feast(9, false, 1, 2);
        x.feast(1, true, 1, 2);
        both("one day behind", 103, x, 1, 2024);
        Checks.due("21 nothing ahead", NONE, x.kept(2024, 1, 1));
        Hymnwright y = new Hymnwright();
        y.feast(9, false, 1, 1);
        y.feast(1, true, 1, 1);
        both("behind the first day of the year", 102, y, 1, 2024);
        both("behind the first day of all", 102, y, 1, 1600);
        Checks.due("21 not in the year ahead", NONE, y.kept(2023, 12, 30));
    }

    /** "the feast, SUNDAY, or NONE": on the first days and the last ones. */
    private static void firstAndLastDays() {
        Hymnwright x = new Hymnwright();
        Checks.due("21 the first day of all", NONE, x.kept(1600, 1, 1));
        Checks.due("21 the first Sunday", SUNDAY, x.kept(1600, 1, 2));
        Checks.due("21 the last Sunday", SUNDAY, x.kept(2399, 12, 26));
        Checks.due("21 the last day of all", NONE, x.kept(2399, 12, 31));
        Checks.due("21 a year that begins on a Sunday", SUNDAY, x.kept(2023, 1, 1));
        Checks.due("21 and ends on one", SUNDAY, x.kept(2023, 12, 31));
        Checks.due("21 a leap year that begins on a Sunday", SUNDAY, x.kept(2012, 1, 1));
        Checks.due("21 and ends on a Monday", NONE, x.kept(2012, 12, 31));
        Checks.due("21 a leap year that ends on a Sunday", SUNDAY, x.kept(2000, 12, 31));
        Checks.due("21 a leap day that is a Sunday", SUNDAY, x.kept(2004, 2, 29));
        Checks.due("21 a leap day that is none", NONE, x.kept(2024, 2, 29));
        x.feast(1, false, 1, 1);
        x.feast(1, false, 12, 31);
        for (int year : new int[] {1600, 2000, 2012, 2023, 2399}) {
            Checks.due("21 the first day of " + year, 0, x.kept(year, 1, 1));
            Checks.due("21 the last day of " + year, 1, x.kept(year, 12, 31));
            both("the first day", 101, x, 0, year);
            both("the last day", 1231, x, 1, year);
        }
    }

    /** "Years are found by all feasts and ranks that are told by now." */
    private static void foundByAllThatIsToldByNow() {
        Hymnwright x = new Hymnwright();
        Checks.due("21 nothing is told", SUNDAY, x.kept(2023, 1, 1));
        x.feast(3, true, 1, 1);
        Checks.due("21 a feast is told", 0, x.kept(2023, 1, 1));
        Checks.due("22 a feast is told", 101, x.when(0, 2023));
        x.feast(4, true, 1, 1);
        Checks.due("23 a greater one is told", 102, x.whenAnew(0, 2023));
        Checks.due("21 a greater one is told", 1, x.kept(2023, 1, 1));
        Checks.due("22 a greater one is told", 102, x.when(0, 2023));
        x.sundays(9);
        Checks.due("22 the rank is told", 102, x.when(1, 2023));
        Checks.due("23 the rank is told", 103, x.whenAnew(0, 2023));
        Checks.due("21 the rank is told", SUNDAY, x.kept(2023, 1, 1));
        Checks.due("22 another year", 101, x.when(1, 2024));
        Checks.due("22 that year again", 102, x.when(1, 2023));
        x.moving(9, false, -60);
        Checks.due("21 a moving one is told", 2, x.kept(2024, 1, 31));
        Checks.due("22 a moving one is told", 208, x.when(2, 2023));
        x.sundays(0);
        Checks.due("21 the rank is told again", 1, x.kept(2023, 1, 1));
    }

    /** "its number, or SUNDAY", "0 to 2", "0 to 15, or NONE for no reading": each by itself. */
    private static void readingsOfAll() {
        Hymnwright x = new Hymnwright();
        for (int i = 0; i < 20; i++) {
            x.feast(9, false, 10, 1 + i);
        }
        for (int feast = -2; feast < 20; feast++) {
            for (int cycle = 0; cycle <= 2 && feast != -1; cycle++) {
                int theme = (feast + 2 + 5 * cycle) % 16;
                Checks.due("20 none at first of " + feast, NONE, x.reading(feast, cycle, theme));
            }
        }
        for (int feast = -2; feast < 20; feast++) {
            for (int cycle = 0; cycle <= 2 && feast != -1; cycle++) {
                int theme = (feast + 2 + 5 * cycle) % 16;
                Checks.due("20 its own of " + feast, theme, x.reading(feast, cycle, cycle == 1 ? NONE : 15));
                Checks.due("20 replaced of " + feast, cycle == 1 ? NONE : 15, x.reading(feast, cycle, 0));
                Checks.due("20 the least theme of " + feast, 0, x.reading(feast, cycle, NONE));
                Checks.due("20 none any more of " + feast, NONE, x.reading(feast, cycle, NONE));
            }
        }
    }

    /** "found by looking at all days of the year": from the first to the last one, with no call ahead of it. */
    private static void whenAnewAlone() {
        for (int year : new int[] {1600, 1999, 2000, 2023, 2024, 2399}) {
            LocalDate day = LocalDate.of(year, 1, 1);
            while (day.getYear() == year) {
                Hymnwright x = new Hymnwright();
                x.feast(9, false, day.getMonthValue(), day.getDayOfMonth());
                Checks.due("23 alone, " + day, monthAndDay(day), x.whenAnew(0, year));
                Checks.due("22 behind it, " + day, monthAndDay(day), x.when(0, year));
                day = day.plusDays(1);
            }
        }
    }

    /** "NONE if it is left out", though another feast is kept on its day. */
    private static void whenOfNone() {
        Hymnwright x = new Hymnwright();
        x.feast(9, false, 1, 1);
        x.feast(8, false, 1, 1);
        x.feast(9, false, 12, 31);
        x.feast(9, true, 12, 31);
        both("the first day is taken", NONE, x, 1, 2024);
        both("the last day is taken", NONE, x, 3, 2024);
        both("the first day", 101, x, 0, 2024);
        both("the last day", 1231, x, 2, 2024);
    }
}
