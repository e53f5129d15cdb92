import java.time.LocalDate;
import java.util.Map;
import java.util.TreeMap;
import java.util.function.IntSupplier;

/** Long runs of calls, the same ones on Hymnwright and on the Model; every answer and throw is to be the same. */
final class ModelTest {
    private static final int RUNS = 1500;
    private static final int CALLS = 512;

    private long seed;
    private final Hymnwright x = new Hymnwright();
    private final Model model = new Model();
    private final Map<String, Integer> answers;
    private LocalDate clock;
    private final int wrongOneIn;
    private final int firstMetre;

    private ModelTest(long seed, Map<String, Integer> answers) {
        this.seed = seed * 7919 + 17;
        this.answers = answers;
        this.wrongOneIn = 10 + upTo(60);
        this.firstMetre = 1 + upTo(12);
        this.clock = LocalDate.of(1600 + upTo(799), 1, 1).plusDays(upTo(300));
    }

    public static void main(String[] args) {
        Map<String, Integer> answers = new TreeMap<>();
        for (int run = 0; run < RUNS; run++) {
            ModelTest test = new ModelTest(run, answers);
            for (int call = 0; call < CALLS; call++) {
                test.call("run " + run + " call " + call + " ", call);
            }
        }
        covered(answers);
        Checks.finish();
    }

    /** That the runs reach what they are for. */
    private static void covered(Map<String, Integer> answers) {
        String[] wanted = {"fits 0", "fits 1", "fits 2", "why 0", "why 1", "why 2", "why 3", "why 4", "why I", "why A",
            "why S", "sing n", "sing A", "sing S", "clashes n", "clashes S", "when NONE", "when n", "shift NONE",
            "shift n", "kept NONE", "kept SUNDAY", "kept n", "theme n", "service NONE", "service n", "text S", "tune S",
            "line S", "phrase S", "feast S", "moving S", "best NONE", "best n"};
        for (String one : wanted) {
            Checks.due("the runs reach " + one, true, answers.getOrDefault(one, 0) >= 50);
        }
    }

    private int next() {
        seed = seed * 6364136223846793005L + 1442695040888963407L;
        return (int) (seed >>> 33);
    }

    private int upTo(int most) {
        return next() % (most + 1);
    }

    /** Mostly within the bounds, sometimes near them or far outside. */
    private int within(int least, int most) {
        if (upTo(wrongOneIn) != 0) {
            return least + upTo(Math.max(0, most - least));
        }
        int[] odd = {least, most, least - 1, most + 1, Integer.MIN_VALUE, Integer.MAX_VALUE, -1, 0, -100, -2};
        return odd[upTo(odd.length - 1)];
    }

    private void same(String name, String arguments, String at, IntSupplier got, IntSupplier want) {
        String due = answer(want);
        String is = answer(got);
        Checks.due(at + name + arguments + " is " + is + ", due " + due, true, is.equals(due));
        answers.merge(name + " " + kind(name, due), 1, Integer::sum);
    }

    private static String kind(String name, String due) {
        if (due.startsWith("Index")) {
            return "I";
        }
        if (due.startsWith("Illegal")) {
            return due.startsWith("IllegalA") ? "A" : "S";
        }
        boolean isShort = name.equals("fits") || name.equals("why");
        return due.equals("-100") ? "NONE" : name.equals("kept") && due.equals("-2") ? "SUNDAY" : isShort ? due : "n";
    }

    private static String answer(IntSupplier call) {
        try {
            return Integer.toString(call.getAsInt());
        } catch (RuntimeException e) {
            return e.getClass().getSimpleName();
        }
    }

    private void call(String at, int call) {
        int kind = call < 60 ? upTo(11) : upTo(35);
        if (kind < 4) {
            tellPieces(at);
        } else if (kind < 7) {
            tellYears(at);
        } else if (kind < 12) {
            tellRows(at);
        } else if (kind < 20) {
            askPieces(at);
        } else if (kind < 27) {
            askYears(at);
        } else {
            askServices(at);
        }
    }

    private void tellPieces(String at) {
        int died = within(1500, upTo(2) == 0 ? 2399 : 1600);
        int themes = upTo(2) == 0 ? within(0, 65535) : 7;
        int low = within(0, 40);
        int high = within(low, 40);
        int number = within(0, 5);
        boolean is = upTo(2) != 0;
        switch (upTo(3)) {
            case 0:
                same("text", "(" + died + "," + themes + ")", at, () -> x.text(died, themes),
                        () -> model.text(died, themes));
                break;
            case 1:
                same("tune", "(" + died + "," + low + "," + high + ")", at, () -> x.tune(died, low, high),
                        () -> model.tune(died, low, high));
                break;
            case 2:
                same("allowText", "(" + number + "," + is + ")", at, () -> x.allowText(number, is) ? 1 : 0,
                        () -> model.allowText(number, is));
                break;
            default:
                same("allowTune", "(" + number + "," + is + ")", at, () -> x.allowTune(number, is) ? 1 : 0,
                        () -> model.allowTune(number, is));
        }
    }

    private void tellRows(String at) {
        int number = within(0, 8);
        int many = upTo(3) == 0 ? within(1, 12) : within(firstMetre, firstMetre);
        int marks = within(0, many >= 1 && many <= 12 ? (1 << many) - 1 : 4095);
        String arguments = "(" + number + "," + many + "," + marks + ")";
        if (upTo(1) == 0) {
            same("line", arguments, at, () -> x.line(number, many, marks), () -> model.line(number, many, marks));
        } else {
            same("phrase", arguments, at, () -> x.phrase(number, many, marks), () -> model.phrase(number, many, marks));
        }
    }

    private void tellYears(String at) {
        int rank = within(1, 9);
        boolean isPutOff = upTo(2) != 0;
        int month = within(1, 12);
        int day = within(1, upTo(1) == 0 ? 31 : 3);
        int days = within(-60, upTo(2) == 0 ? 60 : -57);
        int feast = upTo(2) == 0 ? Hymnwright.SUNDAY : within(0, 12);
        int cycle = within(0, 2);
        int theme = upTo(6) == 0 ? within(0, 15) : within(0, 2);
        int sundayRank = within(0, 9);
        switch (upTo(5)) {
            case 0:
                same("feast", "(" + rank + "," + isPutOff + "," + month + "," + day + ")", at,
                        () -> x.feast(rank, isPutOff, month, day), () -> model.feast(rank, isPutOff, month, day));
                break;
            case 1:
                same("moving", "(" + rank + "," + isPutOff + "," + days + ")", at,
                        () -> x.moving(rank, isPutOff, days), () -> model.moving(rank, isPutOff, days));
                break;
            case 2:
                same("sundays", "(" + sundayRank + ")", at, () -> x.sundays(sundayRank),
                        () -> model.sundays(sundayRank));
                break;
            default:
                same("reading", "(" + feast + "," + cycle + "," + theme + ")", at,
                        () -> x.reading(feast, cycle, theme), () -> model.reading(feast, cycle, theme));
        }
    }

    private void askPieces(String at) {
        int text = within(0, 8);
        int tune = within(0, 8);
        int low = within(0, 40);
        int high = within(low, 40);
        switch (upTo(5)) {
            case 0:
                same("fits", "(" + text + "," + tune + ")", at, () -> x.fits(text, tune), () -> model.fits(text, tune));
                break;
            case 1:
                same("clashes", "(" + text + "," + tune + ")", at, () -> x.clashes(text, tune),
                        () -> model.clashes(text, tune));
                break;
            case 2:
                same("best", "(" + text + ")", at, () -> x.best(text), () -> model.best(text));
                break;
            case 3:
                same("alike", "(" + tune + ")", at, () -> x.alike(tune), () -> model.alike(tune));
                break;
            case 4:
                same("metres", "()", at, x::metres, model::metres);
                break;
            default:
                same("shift", "(" + tune + "," + low + "," + high + ")", at, () -> x.shift(tune, low, high),
                        () -> model.shift(tune, low, high));
        }
    }

    private void askYears(String at) {
        int year = within(1600, 2399);
        int month = within(1, 12);
        int day = within(1, upTo(2) == 0 ? 31 : 8);
        int feast = within(0, 14);
        String date = "(" + year + "," + month + "," + day + ")";
        switch (upTo(5)) {
            case 0:
                same("easter", "(" + year + ")", at, () -> x.easter(year), () -> model.easter(year));
                break;
            case 1:
                same("easterAnew", "(" + year + ")", at, () -> x.easterAnew(year), () -> model.easter(year));
                break;
            case 2:
                same("weekday", date, at, () -> x.weekday(year, month, day), () -> model.weekday(year, month, day));
                break;
            case 3:
                same("kept", date, at, () -> x.kept(year, month, day), () -> model.kept(year, month, day));
                break;
            case 4:
                same("when", "(" + feast + "," + year + ")", at, () -> x.when(feast, year),
                        () -> model.when(feast, year));
                break;
            default:
                same("whenAnew", "(" + feast + "," + year + ")", at, () -> x.whenAnew(feast, year),
                        () -> model.when(feast, year));
        }
    }

    /** Services go on from a day that moves, mostly to a Sunday, so that many can be held. */
    private void askServices(String at) {
        LocalDate date = clock.plusDays(upTo(upTo(4) == 0 ? 90 : 9) - 3);
        if (upTo(4) != 0) {
            date = date.plusDays(7 - date.getDayOfWeek().getValue());
        }
        int year = upTo(wrongOneIn) == 0 ? within(1600, 2399) : date.getYear();
        int month = upTo(wrongOneIn) == 0 ? within(1, 12) : date.getMonthValue();
        int day = upTo(wrongOneIn) == 0 ? within(1, 31) : date.getDayOfMonth();
        int text = within(0, 8);
        int service = within(0, upTo(1) == 0 ? 20 : 3);
        int what = within(0, 4);
        String arguments = "(" + year + "," + month + "," + day + ")";
        switch (upTo(6)) {
            case 0:
                same("theme", arguments, at, () -> x.theme(year, month, day), () -> model.theme(year, month, day));
                break;
            case 1:
            case 2:
                same("why", text + arguments, at, () -> x.why(text, year, month, day),
                        () -> model.why(text, year, month, day));
                break;
            case 3:
            case 4:
                same("sing", arguments, at, () -> x.sing(year, month, day), () -> model.sing(year, month, day));
                clock = date.getYear() < 2399 ? date : clock;
                break;
            case 5:
                same("service", "(" + service + "," + what + ")", at, () -> x.service(service, what),
                        () -> model.service(service, what));
                break;
            default:
                same("sung", "(" + text + ")", at, () -> x.sung(text), () -> model.sung(text));
        }
    }
}
