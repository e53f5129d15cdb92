import java.time.LocalDate;
import java.util.ArrayList;
import java.util.List;

/**
 * "A call that throws an exception changes nothing. If several apply, the one that is named first in the throws
 * clause is thrown." Each call that can be refused, with the first values that are refused on each side, on a new
 * object, on one of which a little was told, and on one of which was told as much as there may be.
 */
final class RefusedCallsTest {
    private static final int MIN = Integer.MIN_VALUE;
    private static final int MAX = Integer.MAX_VALUE;
    private static final int NONE = Hymnwright.NONE;
    private static final int SUNDAY = Hymnwright.SUNDAY;
    private static final Class<IndexOutOfBoundsException> I = IndexOutOfBoundsException.class;
    private static final Class<IllegalArgumentException> A = IllegalArgumentException.class;
    private static final Class<IllegalStateException> S = IllegalStateException.class;

    /** The first numbers that are refused: behind the last, ahead of 0, and the farthest ones. */
    private static final int[] BEHIND_NONE = {0, -1, 12, 20, 60, NONE, MIN, MAX};
    private static final int[] BEHIND_THREE = {3, -1, -3, NONE, MIN, MAX};
    private static final int[] BEHIND_TWELVE = {12, -1, 13, MIN, MAX};
    private static final int[] DEATHS = {1499, 2400, 0, -1, MIN, MAX};
    private static final int[] THEME_SETS = {-1, 65536, MIN, MAX};
    private static final int[] NOTES = {-1, 41, MIN, MAX};
    private static final int[] MANIES = {0, 13, -1, 32, 33, MIN, MAX};
    private static final int[] YEARS = {1599, 2400, 0, -1, MIN, MAX};
    private static final int[] RANKS = {0, 10, -1, MIN, MAX};
    private static final int[] FROM_EASTER = {-61, 61, MIN, MAX};
    private static final int[] CYCLES = {-1, 3, MIN, MAX};
    private static final int[] THEMES = {-1, 16, -99, -101, SUNDAY, MIN, MAX};
    private static final int[] WHATS = {-1, 5, MIN, MAX};
    private static final int[][] NO_DAYS = noDays();

    private final Made none = Made.none();
    private final Made some = Made.some();
    private final Made full = Made.full();

    public static void main(String[] args) {
        RefusedCallsTest test = new RefusedCallsTest();
        test.arePromised();
        test.texts();
        test.tunes();
        test.rows("line");
        test.rows("phrase");
        test.pairs("fits");
        test.pairs("clashes");
        test.numbers("best", "allowText", "sung");
        test.numbers("alike", "allowTune");
        test.notFitting();
        test.choirs();
        test.yearsOfEaster();
        test.days();
        test.feasts();
        test.ranksOfSundays();
        test.readings();
        test.yearsOfFeasts();
        test.daysWithoutTheme();
        test.reasonsOfWhom();
        test.services();
        test.servicesToldOf();
        Checks.finish();
    }

    private static int[][] noDays() {
        List<int[]> days = new ArrayList<>();
        for (int year : YEARS) {
            days.add(new int[] {year, 1, 1});
        }
        days.add(new int[] {1599, 12, 31});
        days.add(new int[] {2400, 2, 29});
        for (int month : new int[] {0, 13, -1, MIN, MAX}) {
            days.add(new int[] {2023, month, 1});
        }
        for (int day : new int[] {-1, 32, MIN, MAX}) {
            days.add(new int[] {2023, 1, day});
        }
        for (int year : new int[] {1600, 1700, 2023, 2024, 2399}) {
            for (int month = 1; month <= 12; month++) {
                days.add(new int[] {year, month, 0});
                days.add(new int[] {year, month, LocalDate.of(year, month, 1).lengthOfMonth() + 1});
            }
        }
        for (int year : new int[] {1800, 1900, 2100, 2200, 2300, 1601, 1602, 1603, 2397}) {
            days.add(new int[] {year, 2, 29});
        }
        for (int year : new int[] {2000, 1604, 1696, 2104, 2396}) {
            days.add(new int[] {year, 2, 30});
        }
        return days.toArray(new int[0][]);
    }

    /** The object of which as much was told is used for no more calls than are promised. */
    private void arePromised() {
        Checks.due("60 services were held", 2024, new Call("service", 59, 2).on(full.object()));
        Checks.due("the last one on a Sunday", 218, new Call("service", 59, 3).on(full.object()));
        Checks.due("2 services were held", 122, new Call("service", 1, 3).on(some.object()));
    }

    private void texts() {
        for (int died : DEATHS) {
            none.refuses(A, "text", died, 0);
            full.refuses(A, "text", died, 0);
        }
        for (int themes : THEME_SETS) {
            none.refuses(A, "text", 1700, themes);
            some.refuses(A, "text", 1499, themes);
            full.refuses(A, "text", 1700, themes);
        }
        full.refuses(S, "text", 1500, 0);
        full.refuses(S, "text", 2399, 65535);
    }

    private void tunes() {
        for (int died : DEATHS) {
            none.refuses(A, "tune", died, 0, 0);
            full.refuses(A, "tune", died, 0, 40);
        }
        for (int note : NOTES) {
            none.refuses(A, "tune", 1700, note, 40);
            none.refuses(A, "tune", 1700, 0, note);
            none.refuses(A, "tune", 1700, note, note);
            full.refuses(A, "tune", 1700, note, 40);
            full.refuses(A, "tune", 1700, 0, note);
        }
        none.refuses(A, "tune", 1700, 1, 0);
        some.refuses(A, "tune", 1700, 40, 39);
        full.refuses(A, "tune", 1700, 21, 20);
        full.refuses(S, "tune", 1500, 0, 0);
        full.refuses(S, "tune", 2399, 40, 40);
    }

    /** Lines and phrases: in some, the texts 0 to 2 have none, eight and one, the tunes none, one and eight. */
    private void rows(String call) {
        int one = call.equals("line") ? 2 : 1;
        int eight = call.equals("line") ? 1 : 2;
        for (int number : BEHIND_NONE) {
            none.refuses(I, call, number, 1, 0);
        }
        for (int number : BEHIND_THREE) {
            some.refuses(I, call, number, 1, 0);
            some.refuses(I, call, number, 13, 0);
            some.refuses(I, call, number, 1, 2);
        }
        for (int number : BEHIND_TWELVE) {
            full.refuses(I, call, number, 1, 0);
            full.refuses(I, call, number, 0, -1);
        }
        for (int many : MANIES) {
            some.refuses(A, call, 0, many, 0);
            some.refuses(A, call, one, many, 0);
            some.refuses(A, call, eight, many, 0);
            full.refuses(A, call, 11, many, 0);
        }
        for (int many = 1; many <= 12; many++) {
            some.refuses(A, call, 0, many, 1 << many);
            some.refuses(A, call, 0, many, -1);
            some.refuses(A, call, one, many, 1 << many);
            some.refuses(A, call, one, many, -1);
            full.refuses(A, call, 0, many, 1 << many);
        }
        some.refuses(A, call, 0, 12, MAX);
        some.refuses(A, call, 0, 12, MIN);
        some.refuses(S, call, eight, 4, 0);
        for (int number = 0; number < 12; number++) {
            full.refuses(S, call, number, 1, 0);
            full.refuses(S, call, number, 12, 4095);
        }
    }

    private void pairs(String call) {
        for (int number : BEHIND_NONE) {
            none.refuses(I, call, number, number);
        }
        for (int number : BEHIND_THREE) {
            some.refuses(I, call, number, 1);
            some.refuses(I, call, 1, number);
            some.refuses(I, call, 0, number);
        }
        for (int number : BEHIND_TWELVE) {
            full.refuses(I, call, number, 11);
            full.refuses(I, call, 11, number);
        }
    }

    /** Calls that ask of a text, or of a tune, alone. */
    private void numbers(String... calls) {
        for (String call : calls) {
            for (int number : BEHIND_NONE) {
                none.refuses(I, call, number, 1);
            }
            for (int number : BEHIND_THREE) {
                some.refuses(I, call, number, 1);
            }
            for (int number : BEHIND_TWELVE) {
                full.refuses(I, call, number, 1);
            }
        }
        some.refuses(I, calls[1], 3, 0);
        full.refuses(I, calls[1], 12, 0);
    }

    private void notFitting() {
        some.refuses(S, "clashes", 0, 0);
        some.refuses(S, "clashes", 0, 1);
        some.refuses(S, "clashes", 1, 0);
        some.refuses(S, "clashes", 1, 1);
        some.refuses(S, "clashes", 2, 2);
    }

    private void choirs() {
        for (int number : BEHIND_NONE) {
            none.refuses(I, "shift", number, 0, 40);
        }
        for (int number : BEHIND_THREE) {
            some.refuses(I, "shift", number, 0, 40);
            some.refuses(I, "shift", number, -1, 40);
            some.refuses(I, "shift", number, 0, 41);
        }
        for (int number : BEHIND_TWELVE) {
            full.refuses(I, "shift", number, 40, 0);
        }
        for (int note : NOTES) {
            some.refuses(A, "shift", 1, note, 40);
            some.refuses(A, "shift", 1, 0, note);
            some.refuses(A, "shift", 1, note, note);
        }
        some.refuses(A, "shift", 1, 1, 0);
        some.refuses(A, "shift", 1, 40, 39);
    }

    private void yearsOfEaster() {
        for (int year : YEARS) {
            none.refuses(A, "easter", year);
            none.refuses(A, "easterAnew", year);
            full.refuses(A, "easter", year);
            full.refuses(A, "easterAnew", year);
        }
    }

    private void days() {
        for (int[] day : NO_DAYS) {
            some.refuses(A, "weekday", day[0], day[1], day[2]);
            some.refuses(A, "kept", day[0], day[1], day[2]);
            some.refuses(A, "theme", day[0], day[1], day[2]);
            some.refuses(A, "sing", day[0], day[1], day[2]);
            some.refuses(A, "why", 1, day[0], day[1], day[2]);
            none.refuses(A, "sing", day[0], day[1], day[2]);
        }
    }

    private void feasts() {
        for (int rank : RANKS) {
            none.refuses(A, "feast", rank, 0, 1, 1);
            none.refuses(A, "moving", rank, 1, 0);
            full.refuses(A, "feast", rank, 1, 1, 1);
            full.refuses(A, "moving", rank, 0, 0);
        }
        for (int month : new int[] {0, 13, -1, MIN, MAX}) {
            none.refuses(A, "feast", 5, 0, month, 1);
            full.refuses(A, "feast", 5, 0, month, 1);
        }
        for (int month = 1; month <= 12; month++) {
            for (int day : new int[] {0, -1, LocalDate.of(2000, month, 1).lengthOfMonth() + 1, MIN, MAX}) {
                none.refuses(A, "feast", 5, 0, month, day);
                some.refuses(A, "feast", 5, 1, month, day);
                full.refuses(A, "feast", 5, 1, month, day);
            }
        }
        for (int days : FROM_EASTER) {
            none.refuses(A, "moving", 5, 0, days);
            some.refuses(A, "moving", 0, 1, days);
            full.refuses(A, "moving", 5, 1, days);
        }
        full.refuses(S, "feast", 1, 0, 1, 1);
        full.refuses(S, "feast", 9, 1, 2, 29);
        full.refuses(S, "moving", 1, 0, -60);
        full.refuses(S, "moving", 9, 1, 60);
    }

    private void ranksOfSundays() {
        for (int rank : new int[] {-1, 10, MIN, MAX}) {
            none.refuses(A, "sundays", rank);
            some.refuses(A, "sundays", rank);
            full.refuses(A, "sundays", rank);
        }
    }

    private void readings() {
        for (int feast : new int[] {0, -1, -3, 20, NONE, MIN, MAX}) {
            none.refuses(I, "reading", feast, 0, 0);
        }
        for (int feast : BEHIND_THREE) {
            some.refuses(I, "reading", feast, 0, 0);
            some.refuses(I, "reading", feast, 3, 0);
            some.refuses(I, "reading", feast, 0, 16);
        }
        for (int feast : new int[] {20, -1, -3, MIN, MAX}) {
            full.refuses(I, "reading", feast, 2, NONE);
        }
        for (int feast : new int[] {0, 2, SUNDAY}) {
            for (int cycle : CYCLES) {
                some.refuses(A, "reading", feast, cycle, 0);
                some.refuses(A, "reading", feast, cycle, NONE);
            }
            for (int theme : THEMES) {
                for (int cycle = 0; cycle <= 2; cycle++) {
                    some.refuses(A, "reading", feast, cycle, theme);
                }
            }
        }
        none.refuses(A, "reading", SUNDAY, 0, 16);
        full.refuses(A, "reading", 19, 3, 15);
    }

    private void yearsOfFeasts() {
        for (String call : new String[] {"when", "whenAnew"}) {
            for (int feast : new int[] {0, -1, SUNDAY, NONE, 20, MIN, MAX}) {
                none.refuses(I, call, feast, 2023);
                none.refuses(I, call, feast, 1599);
            }
            for (int feast : new int[] {3, -1, SUNDAY, NONE, MIN, MAX}) {
                some.refuses(I, call, feast, 2023);
                some.refuses(I, call, feast, 2400);
            }
            for (int feast : new int[] {20, -1, SUNDAY, NONE, MIN, MAX}) {
                full.refuses(I, call, feast, 2024);
            }
            for (int year : YEARS) {
                some.refuses(A, call, 0, year);
                full.refuses(A, call, 19, year);
            }
        }
    }

    /** A Monday, a Sunday of a cycle without a reading, and a feast without one, on a Monday and on a Sunday. */
    private void daysWithoutTheme() {
        none.refuses(S, "sing", 2023, 1, 1);
        for (int[] day : new int[][] {{2023, 1, 23}, {2025, 1, 5}, {2023, 4, 10}, {2023, 12, 31}}) {
            some.refuses(S, "why", 1, day[0], day[1], day[2]);
            some.refuses(S, "sing", day[0], day[1], day[2]);
        }
    }

    private void reasonsOfWhom() {
        for (int text : BEHIND_NONE) {
            none.refuses(I, "why", text, 2023, 1, 1);
        }
        for (int text : BEHIND_THREE) {
            some.refuses(I, "why", text, 2023, 1, 15);
            some.refuses(I, "why", text, 2023, 1, 23);
            some.refuses(I, "why", text, 2023, 2, 29);
        }
        for (int text : BEHIND_TWELVE) {
            full.refuses(I, "why", text, 2023, 1, 1);
        }
    }

    private void services() {
        // The day of the latest service, and earlier ones, all with a theme and with a text to choose.
        for (int[] day : new int[][] {{2023, 1, 22}, {2023, 1, 15}, {2023, 1, 8}, {2021, 12, 26}, {1601, 1, 7}}) {
            some.refuses(S, "sing", day[0], day[1], day[2]);
        }
        // All that have the theme are sung LATELY; none has the theme of the feast.
        some.refuses(S, "sing", 2023, 1, 29);
        some.refuses(S, "sing", 2023, 3, 1);
        // There were 60, with a text to choose on the day; and no such day.
        full.refuses(S, "sing", 2024, 2, 25);
        full.refuses(S, "sing", 2396, 12, 29);
        full.refuses(A, "sing", 2023, 2, 29);
        full.refuses(A, "sing", 2400, 1, 1);
        Checks.due("a text to choose on that day", 0, new Call("why", 0, 2396, 12, 29).on(full.object()));
    }

    private void servicesToldOf() {
        for (int service : BEHIND_NONE) {
            none.refuses(I, "service", service, 0);
            none.refuses(I, "service", service, 5);
        }
        for (int service : new int[] {2, -1, MIN, MAX}) {
            some.refuses(I, "service", service, 4);
            some.refuses(I, "service", service, -1);
        }
        for (int service : new int[] {60, -1, MIN, MAX}) {
            full.refuses(I, "service", service, 0);
            full.refuses(I, "service", service, 5);
        }
        for (int what : WHATS) {
            some.refuses(A, "service", 0, what);
            full.refuses(A, "service", 59, what);
        }
    }
}
