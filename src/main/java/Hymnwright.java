import java.util.ArrayList;
import java.util.Arrays;

/**
 * Words and tunes that fit each other, and the years in which they are sung.
 * What each call answers is said by the promises of the document.
 */
public final class Hymnwright {
    /** There is none. */
    public static final int NONE = -100;
    /** A Sunday. */
    public static final int SUNDAY = -2;

    private static final int MOST_TEXTS = 12;
    private static final int MOST_TUNES = 12;
    private static final int MOST_FEASTS = 20;
    private static final int MOST_SERVICES = 60;
    private static final int MOST_ROWS = 8;
    private static final int MOST_PLACES = 12;
    private static final int MOST_THEMES = 16;
    private static final int HIGHEST_NOTE = 40;
    private static final int HIGHEST_RANK = 9;
    private static final int CYCLES = 3;
    private static final int FIRST_DEATH = 1500;
    private static final int FIRST_YEAR = 1600;
    private static final int LAST_YEAR = 2399;
    private static final int LEAP_YEAR = 2000;
    private static final int YEARS_OF_RIGHTS = 70;
    private static final int MOST_DAYS_FROM_EASTER = 60;
    private static final int DAYS_PUT_OFF = 30;
    private static final int DAYS_OF_LATELY = 28;

    private final ArrayList<Text> texts = new ArrayList<Text>();
    private final ArrayList<Tune> tunes = new ArrayList<Tune>();
    private final ArrayList<Feast> feasts = new ArrayList<Feast>();
    private final ArrayList<Service> services = new ArrayList<Service>();
    private final Readings sundayReadings = new Readings();
    private final YearPlan plan = new YearPlan();
    private int sundayRank = 0;

    /** No texts, tunes, feasts and services. */
    public Hymnwright() {
    }

    // ---- texts, tunes

    /** Promise 2: tells a text, without lines. */
    public int text(int died, int themes) throws IllegalArgumentException, IllegalStateException {
        requireRange(died, FIRST_DEATH, LAST_YEAR);
        requireRange(themes, 0, (1 << MOST_THEMES) - 1);
        if (texts.size() >= MOST_TEXTS) {
            throw new IllegalStateException("there are 12 texts");
        }
        texts.add(new Text(texts.size(), died, themes));
        return texts.size() - 1;
    }

    /** Promise 3: adds a line to a text. */
    public int line(int text, int many, int stressed)
            throws IndexOutOfBoundsException, IllegalArgumentException, IllegalStateException {
        return addRow(textAt(text).lines, many, stressed);
    }

    /** Promise 4: tells a tune, without phrases. */
    public int tune(int died, int low, int high) throws IllegalArgumentException, IllegalStateException {
        requireRange(died, FIRST_DEATH, LAST_YEAR);
        requireRange(low, 0, HIGHEST_NOTE);
        requireRange(high, low, HIGHEST_NOTE);
        if (tunes.size() >= MOST_TUNES) {
            throw new IllegalStateException("there are 12 tunes");
        }
        tunes.add(new Tune(tunes.size(), died, low, high));
        return tunes.size() - 1;
    }

    /** Promise 5: adds a phrase to a tune. */
    public int phrase(int tune, int many, int strong)
            throws IndexOutOfBoundsException, IllegalArgumentException, IllegalStateException {
        return addRow(tuneAt(tune).phrases, many, strong);
    }

    /** Promise 6: tells how a tune fits a text. */
    public int fits(int text, int tune) throws IndexOutOfBoundsException {
        return timesThrough(textAt(text), tuneAt(tune));
    }

    /** Promise 7: returns the clashes of a text with a tune. */
    public int clashes(int text, int tune) throws IndexOutOfBoundsException, IllegalStateException {
        Text words = textAt(text);
        Tune notes = tuneAt(tune);
        if (timesThrough(words, notes) == 0) {
            throw new IllegalStateException("the tune does not fit the text");
        }
        return countClashes(words, notes);
    }

    /** Promise 8: returns the best tune for a text, whether it is FREE or not. */
    public int best(int text) throws IndexOutOfBoundsException {
        Tune found = bestTune(textAt(text), false, LAST_YEAR);
        return found == null ? NONE : found.number;
    }

    /** Promise 9: returns how many tunes have the metre of a tune. */
    public int alike(int tune) throws IndexOutOfBoundsException {
        Rows phrases = tuneAt(tune).phrases;
        int count = 0;
        for (int i = 0; i < tunes.size(); i++) {
            if (tunes.get(i).phrases.hasMetreOf(phrases)) {
                count++;
            }
        }
        return count;
    }

    /** Promise 10: returns how many unlike metres the tunes have. */
    public int metres() {
        int count = 0;
        for (int i = 0; i < tunes.size(); i++) {
            if (isFirstOfItsMetre(tunes.get(i))) {
                count++;
            }
        }
        return count;
    }

    /** Promise 11: allows a text, or does not any more. */
    public boolean allowText(int text, boolean is) throws IndexOutOfBoundsException {
        return textAt(text).rights.setAllowed(is);
    }

    /** Promise 12: allows a tune, or does not any more. */
    public boolean allowTune(int tune, boolean is) throws IndexOutOfBoundsException {
        return tuneAt(tune).rights.setAllowed(is);
    }

    /** Promise 13: returns by how much a tune is put higher for a choir. */
    public int shift(int tune, int low, int high) throws IndexOutOfBoundsException, IllegalArgumentException {
        Tune moved = tuneAt(tune);
        requireRange(low, 0, HIGHEST_NOTE);
        requireRange(high, low, HIGHEST_NOTE);
        int least = low - moved.low;
        int most = high - moved.high;
        if (least > most) {
            return NONE;
        }
        return least > 0 ? least : Math.min(most, 0);
    }

    // ---- years, feasts

    /** Promise 14: returns Easter. */
    public int easter(int year) throws IllegalArgumentException {
        requireRange(year, FIRST_YEAR, LAST_YEAR);
        int day = Days.easterAsDayOfMarch(year);
        return day > 31 ? 400 + day - 31 : 300 + day;
    }

    /** Promise 15: returns the same, found in another way. */
    public int easterAnew(int year) throws IllegalArgumentException {
        requireRange(year, FIRST_YEAR, LAST_YEAR);
        return Days.easterByRests(year);
    }

    /** Promise 16: returns the day of the week. */
    public int weekday(int year, int month, int day) throws IllegalArgumentException {
        requireDay(year, month, day);
        return Days.dayOfWeek(year, Days.dayOfYear(year, month, day));
    }

    /** Promise 17: tells a feast of a month and a day. */
    public int feast(int rank, boolean isPutOff, int month, int day)
            throws IllegalArgumentException, IllegalStateException {
        requireRange(rank, 1, HIGHEST_RANK);
        requireDay(LEAP_YEAR, month, day);
        return addFeast(new Feast(rank, isPutOff, month, day));
    }

    /** Promise 18: tells a feast that moves with Easter. */
    public int moving(int rank, boolean isPutOff, int days)
            throws IllegalArgumentException, IllegalStateException {
        requireRange(rank, 1, HIGHEST_RANK);
        requireRange(days, -MOST_DAYS_FROM_EASTER, MOST_DAYS_FROM_EASTER);
        return addFeast(new Feast(rank, isPutOff, Feast.MOVES, days));
    }

    /** Promise 19: sets the rank of Sundays. */
    public int sundays(int rank) throws IllegalArgumentException {
        requireRange(rank, 0, HIGHEST_RANK);
        int before = sundayRank;
        sundayRank = rank;
        return before;
    }

    /** Promise 20: sets the theme of a reading. */
    public int reading(int feast, int cycle, int theme) throws IndexOutOfBoundsException, IllegalArgumentException {
        Readings readings = feast == SUNDAY ? sundayReadings : feastAt(feast).readings;
        requireRange(cycle, 0, CYCLES - 1);
        if (theme != NONE) {
            requireRange(theme, 0, MOST_THEMES - 1);
        }
        return readings.replace(cycle, theme);
    }

    /** Promise 21: tells what is kept on a day. */
    public int kept(int year, int month, int day) throws IllegalArgumentException {
        requireDay(year, month, day);
        plan.layOut(year, feasts, sundayRank);
        return plan.keptOn(Days.dayOfYear(year, month, day));
    }

    /** Promise 22: tells when a feast is kept. */
    public int when(int feast, int year) throws IndexOutOfBoundsException, IllegalArgumentException {
        requireIndex(feast, feasts.size());
        requireRange(year, FIRST_YEAR, LAST_YEAR);
        plan.layOut(year, feasts, sundayRank);
        int day = plan.dayOfFeast(feast);
        return day == NONE ? NONE : Days.monthAndDay(year, day);
    }

    /** Promise 23: returns the same, found by looking at all days of the year. */
    public int whenAnew(int feast, int year) throws IndexOutOfBoundsException, IllegalArgumentException {
        requireIndex(feast, feasts.size());
        requireRange(year, FIRST_YEAR, LAST_YEAR);
        plan.layOut(year, feasts, sundayRank);
        int found = NONE;
        for (int month = 1; month <= 12; month++) {
            for (int day = 1; day <= Days.monthLength(year, month); day++) {
                if (plan.keptOn(Days.dayOfYear(year, month, day)) == feast) {
                    found = 100 * month + day;
                }
            }
        }
        return found;
    }

    // ---- services

    /** Promise 24: returns the theme of a day. */
    public int theme(int year, int month, int day) throws IllegalArgumentException {
        requireDay(year, month, day);
        return themeOf(year, Days.dayOfYear(year, month, day));
    }

    /** Promise 25: tells why a text would not be chosen on a day. */
    public int why(int text, int year, int month, int day)
            throws IndexOutOfBoundsException, IllegalArgumentException, IllegalStateException {
        Text words = textAt(text);
        requireDay(year, month, day);
        int dayOfYear = Days.dayOfYear(year, month, day);
        int theme = themeOf(year, dayOfYear);
        if (theme == NONE) {
            throw new IllegalStateException("the day has no theme");
        }
        return reasonAgainst(words, theme, year, Days.dayNumber(year, dayOfYear));
    }

    /** Promise 26: holds a service. */
    public int sing(int year, int month, int day) throws IllegalArgumentException, IllegalStateException {
        requireDay(year, month, day);
        int dayOfYear = Days.dayOfYear(year, month, day);
        int dayNumber = Days.dayNumber(year, dayOfYear);
        if (services.size() >= MOST_SERVICES || !isBehindLatestService(dayNumber)) {
            throw new IllegalStateException("no service can follow on that day");
        }
        int theme = themeOf(year, dayOfYear);
        if (theme == NONE) {
            throw new IllegalStateException("the day has no theme");
        }
        Text hymn = chooseText(theme, year, dayNumber);
        Tune itsTune = hymn == null ? null : bestTune(hymn, true, year);
        if (hymn == null || itsTune == null) {
            throw new IllegalStateException("no text can be chosen");
        }
        services.add(new Service(hymn, itsTune, year, 100 * month + day, dayNumber));
        return hymn.number;
    }

    /** Promise 27: tells of a service. */
    public int service(int service, int what) throws IndexOutOfBoundsException, IllegalArgumentException {
        requireIndex(service, services.size());
        Service held = services.get(service);
        switch (what) {
            case 0:
                return held.hymn.number;
            case 1:
                return held.itsTune.number;
            case 2:
                return held.year;
            case 3:
                return held.monthAndDay;
            case 4:
                return timesThrough(held.hymn, held.itsTune) == 0 ? NONE : countClashes(held.hymn, held.itsTune);
            default:
                throw new IllegalArgumentException("a service tells 0 to 4");
        }
    }

    /** Promise 28: returns how many services a text was in. */
    public int sung(int text) throws IndexOutOfBoundsException {
        return countServices(textAt(text));
    }

    // ---- what calls ask of their arguments

    private static void requireRange(int value, int least, int most) {
        if (value < least || value > most) {
            throw new IllegalArgumentException("an argument is out of range");
        }
    }

    private static void requireDay(int year, int month, int day) {
        requireRange(year, FIRST_YEAR, LAST_YEAR);
        requireRange(month, 1, 12);
        requireRange(day, 1, Days.monthLength(year, month));
    }

    private static void requireIndex(int index, int size) {
        if (index < 0 || index >= size) {
            throw new IndexOutOfBoundsException("there is none of that number");
        }
    }

    private Text textAt(int index) {
        requireIndex(index, texts.size());
        return texts.get(index);
    }

    private Tune tuneAt(int index) {
        requireIndex(index, tunes.size());
        return tunes.get(index);
    }

    private Feast feastAt(int index) {
        requireIndex(index, feasts.size());
        return feasts.get(index);
    }

    // ---- telling

    private static int addRow(Rows rows, int many, int marks) {
        requireRange(many, 1, MOST_PLACES);
        requireRange(marks, 0, (1 << many) - 1);
        if (rows.count >= MOST_ROWS) {
            throw new IllegalStateException("there are 8 lines or phrases");
        }
        rows.append(many, marks);
        return rows.count;
    }

    private int addFeast(Feast told) {
        if (feasts.size() >= MOST_FEASTS) {
            throw new IllegalStateException("there are 20 feasts");
        }
        feasts.add(told);
        return feasts.size() - 1;
    }

    // ---- fitting

    private static int timesThrough(Text words, Tune notes) {
        Rows lines = words.lines;
        Rows phrases = notes.phrases;
        if (lines.count == 0 || !lines.hasMetreFrom(0, phrases)) {
            return 0;
        }
        if (lines.count == phrases.count) {
            return 1;
        }
        boolean isTwice = lines.count == 2 * phrases.count && lines.hasMetreFrom(phrases.count, phrases);
        return isTwice ? 2 : 0;
    }

    /** For a tune that fits: behind its last phrase it begins anew. */
    private static int countClashes(Text words, Tune notes) {
        Rows lines = words.lines;
        Rows phrases = notes.phrases;
        int sum = 0;
        for (int i = 0; i < lines.count; i++) {
            int phrase = i < phrases.count ? i : i - phrases.count;
            sum += Integer.bitCount(lines.marksAt(i) ^ phrases.marksAt(phrase));
        }
        return sum;
    }

    private Tune bestTune(Text words, boolean onlyFree, int year) {
        Tune found = null;
        int fewest = 0;
        for (int i = 0; i < tunes.size(); i++) {
            Tune notes = tunes.get(i);
            boolean isAsked = !onlyFree || notes.rights.isFreeIn(year);
            if (isAsked && timesThrough(words, notes) != 0) {
                int clashes = countClashes(words, notes);
                if (found == null || clashes < fewest) {
                    found = notes;
                    fewest = clashes;
                }
            }
        }
        return found;
    }

    private boolean isFirstOfItsMetre(Tune notes) {
        for (int i = 0; i < tunes.size() && i < notes.number; i++) {
            if (tunes.get(i).phrases.hasMetreOf(notes.phrases)) {
                return false;
            }
        }
        return true;
    }

    // ---- choosing

    private int themeOf(int year, int dayOfYear) {
        plan.layOut(year, feasts, sundayRank);
        int what = plan.keptOn(dayOfYear);
        if (what == SUNDAY) {
            return sundayReadings.themeIn(year % CYCLES);
        }
        boolean isFeast = what >= 0 && what < feasts.size();
        return isFeast ? feasts.get(what).readings.themeIn(year % CYCLES) : NONE;
    }

    private int reasonAgainst(Text words, int theme, int year, int dayNumber) {
        if (!words.hasTheme(theme)) {
            return 1;
        }
        if (!words.rights.isFreeIn(year)) {
            return 2;
        }
        if (bestTune(words, true, year) == null) {
            return 3;
        }
        return wasSungLately(words, dayNumber) ? 4 : 0;
    }

    private boolean wasSungLately(Text words, int dayNumber) {
        for (int i = 0; i < services.size(); i++) {
            Service held = services.get(i);
            int daysAhead = dayNumber - held.dayNumber;
            if (held.hymn == words && daysAhead >= 0 && daysAhead <= DAYS_OF_LATELY) {
                return true;
            }
        }
        return false;
    }

    private Text chooseText(int theme, int year, int dayNumber) {
        Text found = null;
        int mostServices = 0;
        int fewestClashes = 0;
        for (int i = 0; i < texts.size(); i++) {
            Text words = texts.get(i);
            Tune notes = bestTune(words, true, year);
            if (notes != null && reasonAgainst(words, theme, year, dayNumber) == 0) {
                int held = countServices(words);
                int clashes = countClashes(words, notes);
                boolean isBetter = held > mostServices || held == mostServices && clashes < fewestClashes;
                if (found == null || isBetter) {
                    found = words;
                    mostServices = held;
                    fewestClashes = clashes;
                }
            }
        }
        return found;
    }

    private int countServices(Text words) {
        int count = 0;
        for (int i = 0; i < services.size(); i++) {
            if (services.get(i).hymn == words) {
                count++;
            }
        }
        return count;
    }

    private boolean isBehindLatestService(int dayNumber) {
        return services.isEmpty() || services.get(services.size() - 1).dayNumber < dayNumber;
    }

    // ---- the parts

    /** The lines of a text or the phrases of a tune: how long each is, and the set of its marked places. */
    private static final class Rows {
        private final int[] lengths = new int[MOST_ROWS];
        private final int[] marks = new int[MOST_ROWS];
        private int count = 0;

        private void append(int length, int markedPlaces) {
            if (count < lengths.length && count < marks.length) {
                lengths[count] = length;
                marks[count] = markedPlaces;
                count++;
            }
        }

        /** 0 where there is no row. */
        private int lengthAt(int index) {
            return index >= 0 && index < count && index < lengths.length ? lengths[index] : 0;
        }

        /** None where there is no row. */
        private int marksAt(int index) {
            return index >= 0 && index < count && index < marks.length ? marks[index] : 0;
        }

        private boolean hasMetreOf(Rows other) {
            return count == other.count && hasMetreFrom(0, other);
        }

        /** Whether the rows from that one on begin with the metre of the others. */
        private boolean hasMetreFrom(int first, Rows other) {
            for (int i = 0; i < other.count; i++) {
                if (lengthAt(first + i) != other.lengthAt(i)) {
                    return false;
                }
            }
            return true;
        }
    }

    private static final class Rights {
        private final int died;
        private boolean isAllowed = false;

        private Rights(int died) {
            this.died = died;
        }

        private boolean setAllowed(boolean is) {
            boolean was = isAllowed;
            isAllowed = is;
            return was;
        }

        private boolean isFreeIn(int year) {
            return isAllowed || year - died > YEARS_OF_RIGHTS;
        }
    }

    private static final class Text {
        private final int number;
        private final int themes;
        private final Rights rights;
        private final Rows lines = new Rows();

        private Text(int number, int died, int themes) {
            this.number = number;
            this.themes = themes;
            this.rights = new Rights(died);
        }

        private boolean hasTheme(int theme) {
            return (themes >> theme & 1) == 1;
        }
    }

    private static final class Tune {
        private final int number;
        private final int low;
        private final int high;
        private final Rights rights;
        private final Rows phrases = new Rows();

        private Tune(int number, int died, int low, int high) {
            this.number = number;
            this.low = low;
            this.high = high;
            this.rights = new Rights(died);
        }
    }

    /** The themes of the three cycles. */
    private static final class Readings {
        private final int[] themes = new int[CYCLES];

        private Readings() {
            Arrays.fill(themes, NONE);
        }

        private int themeIn(int cycle) {
            return cycle >= 0 && cycle < themes.length ? themes[cycle] : NONE;
        }

        private int replace(int cycle, int theme) {
            int before = themeIn(cycle);
            if (cycle >= 0 && cycle < themes.length) {
                themes[cycle] = theme;
            }
            return before;
        }
    }

    private static final class Feast {
        /** Stands for the month of a feast whose day is told from Easter. */
        private static final int MOVES = 0;

        private final int rank;
        private final boolean isPutOff;
        private final int month;
        private final int day;
        private final Readings readings = new Readings();

        private Feast(int rank, boolean isPutOff, int month, int day) {
            this.rank = rank;
            this.isPutOff = isPutOff;
            this.month = month;
            this.day = day;
        }

        /** Its own day, of the days of the year; NONE if that year has none. */
        private int ownDay(int year) {
            if (month == MOVES) {
                return Days.dayOfYear(year, 3, Days.easterAsDayOfMarch(year)) + day;
            }
            return day > Days.monthLength(year, month) ? NONE : Days.dayOfYear(year, month, day);
        }
    }

    private static final class Service {
        private final Text hymn;
        private final Tune itsTune;
        private final int year;
        private final int monthAndDay;
        private final int dayNumber;

        private Service(Text hymn, Tune itsTune, int year, int monthAndDay, int dayNumber) {
            this.hymn = hymn;
            this.itsTune = itsTune;
            this.year = year;
            this.monthAndDay = monthAndDay;
            this.dayNumber = dayNumber;
        }
    }

    /** Which feast is put onto which day of a year: one pair of rows, laid out anew for each call. */
    private static final class YearPlan {
        private final int[] feastOfDay = new int[366];
        private final int[] dayOfFeast = new int[MOST_FEASTS];
        private int year = LEAP_YEAR;
        private int weekdayOfFirst = 0;
        private int sundayRank = 0;

        private void layOut(int newYear, ArrayList<Feast> feasts, int newSundayRank) {
            year = newYear;
            weekdayOfFirst = Days.dayOfWeek(newYear, 0);
            sundayRank = newSundayRank;
            Arrays.fill(feastOfDay, NONE);
            Arrays.fill(dayOfFeast, NONE);
            for (int rank = HIGHEST_RANK; rank >= 1; rank--) {
                for (int number = 0; number < feasts.size(); number++) {
                    if (feasts.get(number).rank == rank) {
                        put(number, feasts.get(number));
                    }
                }
            }
        }

        private void put(int number, Feast told) {
            int own = told.ownDay(year);
            if (own == NONE || number < 0 || number >= dayOfFeast.length) {
                return;
            }
            int last = Math.min(told.isPutOff ? own + DAYS_PUT_OFF : own, Days.yearLength(year) - 1);
            for (int day = own; day <= last; day++) {
                if (isOpen(day, told.rank)) {
                    feastOfDay[day] = number;
                    dayOfFeast[number] = day;
                    return;
                }
            }
        }

        private boolean isOpen(int day, int rank) {
            boolean isUnused = day >= 0 && day < feastOfDay.length && feastOfDay[day] == NONE;
            return isUnused && (rank >= sundayRank || !isSunday(day));
        }

        private boolean isSunday(int day) {
            return (weekdayOfFirst + day) % 7 == 0;
        }

        /** The feast, SUNDAY or NONE. */
        private int keptOn(int day) {
            int put = day >= 0 && day < feastOfDay.length ? feastOfDay[day] : NONE;
            return put == NONE && isSunday(day) ? SUNDAY : put;
        }

        private int dayOfFeast(int number) {
            return number >= 0 && number < dayOfFeast.length ? dayOfFeast[number] : NONE;
        }
    }

    /** The days of years in the new style; the days of a year are numbered from 0. */
    private static final class Days {
        private static final int[] AHEAD_OF_MONTH = {0, 31, 59, 90, 120, 151, 181, 212, 243, 273, 304, 334};

        private static boolean isLeap(int year) {
            return year % 4 == 0 && year % 100 != 0 || year % 400 == 0;
        }

        private static int yearLength(int year) {
            return isLeap(year) ? 366 : 365;
        }

        private static int monthLength(int year, int month) {
            if (month == 2) {
                return isLeap(year) ? 29 : 28;
            }
            return month == 4 || month == 6 || month == 9 || month == 11 ? 30 : 31;
        }

        /** A day above the length of its month is one of the months behind it. */
        private static int dayOfYear(int year, int month, int day) {
            int ahead = month >= 1 && month <= AHEAD_OF_MONTH.length ? AHEAD_OF_MONTH[month - 1] : 0;
            int leapDay = month > 2 && isLeap(year) ? 1 : 0;
            return ahead + leapDay + day - 1;
        }

        private static int monthAndDay(int year, int dayOfYear) {
            int month = 1;
            while (month < 12 && dayOfYear >= dayOfYear(year, month + 1, 1)) {
                month++;
            }
            return 100 * month + dayOfYear - dayOfYear(year, month, 1) + 1;
        }

        /** Days behind the January 1, 1600. */
        private static int dayNumber(int year, int dayOfYear) {
            int years = year - FIRST_YEAR;
            int leapDays = (years + 3) / 4 - (years + 99) / 100 + (years + 399) / 400;
            return 365 * years + leapDays + dayOfYear;
        }

        /** 400 years are whole weeks, so the January 1, 1600, was a Saturday like that of 2000. */
        private static int dayOfWeek(int year, int dayOfYear) {
            return (dayNumber(year, dayOfYear) + 6) % 7;
        }

        /** Above 31 in April. The letters are those of the document. */
        private static int easterAsDayOfMarch(int year) {
            int golden = year % 19 + 1;
            int century = year / 100 + 1;
            int x = 3 * century / 4 - 12;
            int z = (8 * century + 5) / 25 - 5;
            int d = 5 * year / 4 - x - 10;
            int e = (11 * golden + 20 + z - x) % 30;
            if (e == 24 || e == 25 && golden > 11) {
                e++;
            }
            int n = 44 - e;
            if (n < 21) {
                n += 30;
            }
            return n + 7 - (d + n) % 7;
        }

        /** The anonymous way of 1876: 100 times the month, and the day, by rests alone, with nothing excepted. */
        private static int easterByRests(int year) {
            int a = year % 19;
            int b = year / 100;
            int c = year % 100;
            int g = (b - (b + 8) / 25 + 1) / 3;
            int h = (19 * a + b - b / 4 - g + 15) % 30;
            int l = (32 + 2 * (b % 4) + 2 * (c / 4) - h - c % 4) % 7;
            int m = (a + 11 * h + 22 * l) / 451;
            int sum = h + l - 7 * m + 114;
            return 100 * (sum / 31) + sum % 31 + 1;
        }
    }
}
