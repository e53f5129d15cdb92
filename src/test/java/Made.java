import java.time.LocalDate;
import java.util.ArrayList;
import java.util.List;

/** The calls that make an object what it is, and all that such an object answers. */
final class Made {
    /** The document promises nothing about later calls. */
    static final int MOST_CALLS = 512;
    /** How many calls can be made ahead of all that the object is asked. */
    static final int MOST_FIRST = 60;

    private final String name;
    private final List<Call> calls = new ArrayList<>();
    private List<String> untouched;

    private Made(String name) {
        this.name = name;
    }

    static Made none() {
        return new Made("new");
    }

    /** Three texts, tunes and feasts, two services; the text 1 and the tune 2 have as many lines as there may be. */
    static Made some() {
        Made made = new Made("some").then("text", 1700, 1).then("text", 1700, 2).then("text", 1950, 2)
                .then("tune", 1700, 0, 40).then("tune", 1700, 5, 17).then("tune", 2000, 20, 20);
        for (int i = 0; i < 8; i++) {
            made.then("line", 1, 4, i).then("phrase", 2, 4, 5);
        }
        made.then("line", 2, 4, 15).then("phrase", 1, 4, 7).then("allowText", 1, 1).then("allowTune", 2, 1);
        made.then("feast", 9, 0, 3, 1).then("moving", 9, 1, 1).then("feast", 7, 1, 12, 31).then("sundays", 5);
        made.then("reading", Hymnwright.SUNDAY, 1, 1).then("reading", Hymnwright.SUNDAY, 2, 1).then("reading", 0, 1, 7);
        return made.then("sing", 2023, 1, 15).then("sing", 2023, 1, 22);
    }

    /** Twelve texts and tunes of eight rows, twenty feasts, sixty services: on each Sunday up to February 18, 2024. */
    static Made full() {
        Made made = new Made("full").then("sundays", 9);
        for (int i = 0; i < 12; i++) {
            made.then("text", 1600 + i, 3).then("tune", 1600 + i, i, i + 20);
            for (int row = 0; row < 8; row++) {
                made.then("line", i, 4, (i + row) % 16).then("phrase", i, 4, i * row % 16);
            }
        }
        for (int i = 0; i < 10; i++) {
            made.then("feast", 1 + i % 9, i % 2, 1 + i, 7).then("moving", 9 - i % 9, i % 2, i * 5);
        }
        for (int cycle = 0; cycle <= 2; cycle++) {
            made.then("reading", Hymnwright.SUNDAY, cycle, 1).then("reading", 1, cycle, 1);
        }
        LocalDate sunday = LocalDate.of(2023, 1, 1);
        for (int i = 0; i < 60; i++) {
            LocalDate day = sunday.plusWeeks(i);
            made.then("sing", day.getYear(), day.getMonthValue(), day.getDayOfMonth());
        }
        return made;
    }

    private Made then(String call, int... arguments) {
        calls.add(new Call(call, arguments));
        return this;
    }

    Hymnwright object() {
        Hymnwright x = new Hymnwright();
        for (Call call : calls) {
            call.on(x);
        }
        return x;
    }

    /** That a call is refused so, and that the object answers afterwards as if it had not been made. */
    void refuses(Class<? extends RuntimeException> want, String call, int... arguments) {
        Call refused = new Call(call, arguments);
        String what = name + ": " + refused;
        Hymnwright x = object();
        Checks.refused(what, want, () -> refused.on(x));
        isUnchangedBy(what, List.of(refused));
    }

    /** That the object answers after those calls as if they had not been made. */
    void isUnchangedBy(List<Call> first) {
        isUnchangedBy(name + ": " + first.get(0) + " to " + first.get(first.size() - 1), first);
    }

    private void isUnchangedBy(String what, List<Call> first) {
        if (untouched == null) {
            untouched = answersBehind(List.of());
        }
        List<String> touched = answersBehind(first);
        String unlike = "";
        for (int i = 0; i < untouched.size() && unlike.isEmpty(); i++) {
            if (!touched.get(i).equals(untouched.get(i))) {
                unlike = Asked.ALL.get(i) + " is " + touched.get(i) + ", not " + untouched.get(i);
            }
        }
        Checks.due(what + " changes nothing, but then " + unlike, true, unlike.isEmpty());
    }

    /**
     * In portions, each on an object of its own: so none is used for more calls than the document promises. The
     * portions are the same behind any calls, for some that are asked change what the later ones answer.
     */
    private List<String> answersBehind(List<Call> first) {
        List<String> answers = new ArrayList<>();
        int portion = MOST_CALLS - calls.size() - MOST_FIRST;
        Hymnwright x = null;
        for (int i = 0; i < Asked.ALL.size(); i++) {
            if (i % portion == 0) {
                x = object();
                for (Call call : first) {
                    call.answer(x);
                }
            }
            answers.add(Asked.ALL.get(i).answer(x));
        }
        return answers;
    }
}
