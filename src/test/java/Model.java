import java.time.LocalDate;
import java.time.temporal.ChronoUnit;
import java.util.ArrayList;
import java.util.Comparator;
import java.util.HashSet;
import java.util.List;
import java.util.Map;
import java.util.Set;
import java.util.TreeMap;

/** The document written a second time, in the plainest way, with the Java library and by trying all there is. */
final class Model {
    private static final int NONE = -100;
    private static final int SUNDAY = -2;

    /** A text or a tune: lines are pairs of how many places, and which are marked. */
    private static final class Piece {
        int died;
        int themes;
        int low;
        int high;
        boolean isAllowed;
        final List<boolean[]> rows = new ArrayList<>();

        List<Integer> metre() {
            List<Integer> metre = new ArrayList<>();
            for (boolean[] row : rows) {
                metre.add(row.length);
            }
            return metre;
        }

        boolean isFree(int year) {
            return isAllowed || year > died + 70;
        }
    }

    private static final class Feast {
        int rank;
        boolean isPutOff;
        int month;
        int day;
        boolean moves;
        final int[] themes = {NONE, NONE, NONE};
    }

    private static final class Held {
        int text;
        int tune;
        LocalDate day;
    }

    private final List<Piece> texts = new ArrayList<>();
    private final List<Piece> tunes = new ArrayList<>();
    private final List<Feast> feasts = new ArrayList<>();
    private final List<Held> services = new ArrayList<>();
    private final int[] sundayThemes = {NONE, NONE, NONE};
    private int sundayRank = 0;

    private static void range(boolean holds) {
        if (!holds) {
            throw new IllegalArgumentException();
        }
    }

    private static void state(boolean holds) {
        if (!holds) {
            throw new IllegalStateException();
        }
    }

    private static void index(int number, List<?> list) {
        if (number < 0 || number >= list.size()) {
            throw new IndexOutOfBoundsException();
        }
    }

    private static boolean in(int value, int from, int to) {
        return from <= value && value <= to;
    }

    int text(int died, int themes) {
        range(in(died, 1500, 2399) && in(themes, 0, 65535));
        state(texts.size() < 12);
        Piece piece = new Piece();
        piece.died = died;
        piece.themes = themes;
        texts.add(piece);
        return texts.size() - 1;
    }

    int tune(int died, int low, int high) {
        range(in(died, 1500, 2399) && in(low, 0, 40) && in(high, low, 40));
        state(tunes.size() < 12);
        Piece piece = new Piece();
        piece.died = died;
        piece.low = low;
        piece.high = high;
        tunes.add(piece);
        return tunes.size() - 1;
    }

    int row(List<Piece> pieces, int number, int many, int marks) {
        index(number, pieces);
        range(in(many, 1, 12) && marks >= 0 && marks < Math.pow(2, many));
        List<boolean[]> rows = pieces.get(number).rows;
        state(rows.size() < 8);
        boolean[] row = new boolean[many];
        String binary = new StringBuilder(Integer.toBinaryString(marks)).reverse().toString();
        for (int i = 0; i < binary.length(); i++) {
            row[i] = row[i] || binary.charAt(i) == '1';
        }
        rows.add(row);
        return rows.size();
    }

    int line(int text, int many, int stressed) {
        return row(texts, text, many, stressed);
    }

    int phrase(int tune, int many, int strong) {
        return row(tunes, tune, many, strong);
    }

    int fits(int text, int tune) {
        index(text, texts);
        index(tune, tunes);
        List<Integer> lines = texts.get(text).metre();
        List<Integer> once = tunes.get(tune).metre();
        List<Integer> twice = new ArrayList<>(once);
        twice.addAll(once);
        return lines.isEmpty() ? 0 : lines.equals(once) ? 1 : lines.equals(twice) ? 2 : 0;
    }

    int clashes(int text, int tune) {
        int times = fits(text, tune);
        state(times != 0);
        List<boolean[]> notes = new ArrayList<>();
        for (int i = 0; i < times; i++) {
            notes.addAll(tunes.get(tune).rows);
        }
        int sum = 0;
        for (int i = 0; i < notes.size(); i++) {
            for (int j = 0; j < notes.get(i).length; j++) {
                sum += notes.get(i)[j] != texts.get(text).rows.get(i)[j] ? 1 : 0;
            }
        }
        return sum;
    }

    private List<Integer> fittingTunes(int text) {
        List<Integer> found = new ArrayList<>();
        for (int tune = 0; tune < tunes.size(); tune++) {
            if (fits(text, tune) != 0) {
                found.add(tune);
            }
        }
        found.sort(Comparator.comparing((Integer tune) -> clashes(text, tune)).thenComparing(tune -> tune));
        return found;
    }

    int best(int text) {
        index(text, texts);
        List<Integer> fitting = fittingTunes(text);
        return fitting.isEmpty() ? NONE : fitting.get(0);
    }

    int alike(int tune) {
        index(tune, tunes);
        int count = 0;
        for (Piece other : tunes) {
            count += other.metre().equals(tunes.get(tune).metre()) ? 1 : 0;
        }
        return count;
    }

    int metres() {
        Set<List<Integer>> metres = new HashSet<>();
        for (Piece tune : tunes) {
            metres.add(tune.metre());
        }
        return metres.size();
    }

    int allow(List<Piece> pieces, int number, boolean is) {
        index(number, pieces);
        boolean was = pieces.get(number).isAllowed;
        pieces.get(number).isAllowed = is;
        return was ? 1 : 0;
    }

    int allowText(int text, boolean is) {
        return allow(texts, text, is);
    }

    int allowTune(int tune, boolean is) {
        return allow(tunes, tune, is);
    }

    int shift(int tune, int low, int high) {
        index(tune, tunes);
        range(in(low, 0, 40) && in(high, low, 40));
        Piece piece = tunes.get(tune);
        for (int many = 0; many <= 40; many++) {
            for (int by = -many; by <= many; by += Math.max(1, 2 * many)) {
                if (piece.low + by >= low && piece.high + by <= high) {
                    return by;
                }
            }
        }
        return NONE;
    }

    private static int number(LocalDate day) {
        return day.getMonthValue() * 100 + day.getDayOfMonth();
    }

    private static boolean isSunday(LocalDate day) {
        return day.getDayOfWeek().getValue() == 7;
    }

    /** The day of the document's rule, by floor divisions of rationals. */
    private static LocalDate easterDay(int year) {
        int golden = year % 19 + 1;
        int century = Math.floorDiv(year, 100) + 1;
        int x = Math.floorDiv(3 * century, 4) - 12;
        int z = Math.floorDiv(8 * century + 5, 25) - 5;
        int d = Math.floorDiv(5 * year, 4) - x - 10;
        int e = Math.floorMod(11 * golden + 20 + z - x, 30);
        e += e == 24 || e == 25 && golden > 11 ? 1 : 0;
        int n = 44 - e < 21 ? 74 - e : 44 - e;
        return LocalDate.of(year, 3, 1).plusDays(n + 7 - Math.floorMod(d + n, 7) - 1);
    }

    int easter(int year) {
        range(in(year, 1600, 2399));
        return number(easterDay(year));
    }

    private static LocalDate date(int year, int month, int day) {
        range(in(year, 1600, 2399) && in(month, 1, 12) && day >= 1);
        LocalDate first = LocalDate.of(year, month, 1);
        range(day <= first.lengthOfMonth());
        return first.withDayOfMonth(day);
    }

    int weekday(int year, int month, int day) {
        return date(year, month, day).getDayOfWeek().getValue() % 7;
    }

    private int addFeast(Feast feast) {
        state(feasts.size() < 20);
        feasts.add(feast);
        return feasts.size() - 1;
    }

    int feast(int rank, boolean isPutOff, int month, int day) {
        range(in(rank, 1, 9));
        date(2000, month, day);
        Feast feast = new Feast();
        feast.rank = rank;
        feast.isPutOff = isPutOff;
        feast.month = month;
        feast.day = day;
        return addFeast(feast);
    }

    int moving(int rank, boolean isPutOff, int days) {
        range(in(rank, 1, 9) && in(days, -60, 60));
        Feast feast = new Feast();
        feast.rank = rank;
        feast.isPutOff = isPutOff;
        feast.day = days;
        feast.moves = true;
        return addFeast(feast);
    }

    int sundays(int rank) {
        range(in(rank, 0, 9));
        int before = sundayRank;
        sundayRank = rank;
        return before;
    }

    int reading(int feast, int cycle, int theme) {
        if (feast != SUNDAY) {
            index(feast, feasts);
        }
        range(in(cycle, 0, 2) && (theme == NONE || in(theme, 0, 15)));
        int[] themes = feast == SUNDAY ? sundayThemes : feasts.get(feast).themes;
        int before = themes[cycle];
        themes[cycle] = theme;
        return before;
    }

    private Map<LocalDate, Integer> feastsOf(int year) {
        List<Integer> order = new ArrayList<>();
        for (int i = 0; i < feasts.size(); i++) {
            order.add(i);
        }
        order.sort(Comparator.comparing((Integer i) -> -feasts.get(i).rank).thenComparing(i -> i));
        Map<LocalDate, Integer> put = new TreeMap<>();
        for (int number : order) {
            Feast feast = feasts.get(number);
            if (!feast.moves && feast.day > LocalDate.of(year, feast.month, 1).lengthOfMonth()) {
                continue;
            }
            LocalDate own = feast.moves ? easterDay(year).plusDays(feast.day)
                    : LocalDate.of(year, feast.month, feast.day);
            for (int behind = 0; behind <= (feast.isPutOff ? 30 : 0); behind++) {
                LocalDate day = own.plusDays(behind);
                boolean isShut = isSunday(day) && feast.rank < sundayRank;
                if (day.getYear() == year && !put.containsKey(day) && !isShut) {
                    put.put(day, number);
                    break;
                }
            }
        }
        return put;
    }

    int kept(int year, int month, int day) {
        LocalDate date = date(year, month, day);
        return feastsOf(year).getOrDefault(date, isSunday(date) ? SUNDAY : NONE);
    }

    int when(int feast, int year) {
        index(feast, feasts);
        range(in(year, 1600, 2399));
        for (Map.Entry<LocalDate, Integer> entry : feastsOf(year).entrySet()) {
            if (entry.getValue() == feast) {
                return number(entry.getKey());
            }
        }
        return NONE;
    }

    int theme(int year, int month, int day) {
        int what = kept(year, month, day);
        return what == NONE ? NONE : what == SUNDAY ? sundayThemes[year % 3] : feasts.get(what).themes[year % 3];
    }

    int why(int text, int year, int month, int day) {
        index(text, texts);
        LocalDate date = date(year, month, day);
        int theme = theme(year, month, day);
        state(theme != NONE);
        Set<Integer> themes = new HashSet<>();
        for (int i = 0; i < 16; i++) {
            if (texts.get(text).themes / (1 << i) % 2 == 1) {
                themes.add(i);
            }
        }
        return !themes.contains(theme) ? 1 : !texts.get(text).isFree(year) ? 2
                : freeTunes(text, year).isEmpty() ? 3 : isLately(text, date) ? 4 : 0;
    }

    private List<Integer> freeTunes(int text, int year) {
        List<Integer> free = fittingTunes(text);
        free.removeIf(tune -> !tunes.get(tune).isFree(year));
        return free;
    }

    private boolean isLately(int text, LocalDate date) {
        for (Held held : services) {
            long days = ChronoUnit.DAYS.between(held.day, date);
            if (held.text == text && days >= 0 && days <= 28) {
                return true;
            }
        }
        return false;
    }

    int sing(int year, int month, int day) {
        LocalDate date = date(year, month, day);
        state(services.size() < 60);
        for (Held held : services) {
            state(held.day.isBefore(date));
        }
        state(theme(year, month, day) != NONE);
        List<Integer> choice = new ArrayList<>();
        for (int text = 0; text < texts.size(); text++) {
            if (why(text, year, month, day) == 0) {
                choice.add(text);
            }
        }
        state(!choice.isEmpty());
        choice.sort(Comparator.comparing((Integer text) -> -sung(text))
                .thenComparing(text -> clashes(text, freeTunes(text, year).get(0))).thenComparing(text -> text));
        Held held = new Held();
        held.text = choice.get(0);
        held.tune = freeTunes(held.text, year).get(0);
        held.day = date;
        services.add(held);
        return held.text;
    }

    int service(int service, int what) {
        index(service, services);
        range(in(what, 0, 4));
        Held held = services.get(service);
        int clashes = fits(held.text, held.tune) == 0 ? NONE : clashes(held.text, held.tune);
        return new int[] {held.text, held.tune, held.day.getYear(), number(held.day), clashes}[what];
    }

    int sung(int text) {
        index(text, texts);
        int count = 0;
        for (Held held : services) {
            count += held.text == text ? 1 : 0;
        }
        return count;
    }
}
