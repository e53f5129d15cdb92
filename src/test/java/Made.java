import java.util.ArrayList;
import java.util.List;

/** The calls that make an object what it is, and all that such an object answers. */
final class Made {
    /** The document promises nothing about later calls. */
    static final int MOST_CALLS = 512;

    private final String name;
    private final List<Call> calls = new ArrayList<>();
    private List<String> untouched;

    Made(String name) {
        this.name = name;
    }

    Made then(String call, int... arguments) {
        calls.add(new Call(call, arguments));
        return this;
    }

    Hymnwright object() {
        Hymnwright x = new Hymnwright();
        for (Call call : calls) {
            call.on(x);
        }
        return x;
    }

    /** That a call is refused so, and that the object answers afterwards as if it had not been made. */
    void refuses(Class<? extends RuntimeException> want, String call, int... arguments) {
        Call refused = new Call(call, arguments);
        String what = name + ": " + refused;
        Hymnwright x = object();
        Checks.refused(what, want, () -> refused.on(x));
        if (untouched == null) {
            untouched = answers(null);
        }
        List<String> touched = answers(refused);
        String unlike = "";
        for (int i = 0; i < untouched.size() && unlike.isEmpty(); i++) {
            if (!touched.get(i).equals(untouched.get(i))) {
                unlike = Asked.ALL.get(i) + " is " + touched.get(i) + ", not " + untouched.get(i);
            }
        }
        Checks.due(what + " changes nothing, but then " + unlike, true, unlike.isEmpty());
    }

    /** In portions, each on an object of its own: so none is used for more calls than the document promises. */
    private List<String> answers(Call first) {
        List<String> answers = new ArrayList<>();
        int portion = MOST_CALLS - calls.size() - 1;
        Hymnwright x = null;
        for (int i = 0; i < Asked.ALL.size(); i++) {
            if (i % portion == 0) {
                x = object();
                if (first != null) {
                    first.answer(x);
                }
            }
            answers.add(Asked.ALL.get(i).answer(x));
        }
        return answers;
    }
}
