import java.util.ArrayList;
import java.util.List;

/** All that can be asked of an object of which little or much was told; what changes it comes last. */
final class Asked {
    static final List<Call> ALL = all();

    private Asked() {
    }

    private static List<Call> all() {
        List<Call> calls = new ArrayList<>();
        pieces(calls);
        services(calls);
        years(calls);
        days(calls);
        held(calls);
        replaced(calls);
        told(calls);
        return List.copyOf(calls);
    }

    private static void pieces(List<Call> calls) {
        calls.add(new Call("metres"));
        for (int text = -1; text <= 12; text++) {
            calls.add(new Call("best", text));
            calls.add(new Call("sung", text));
            for (int tune = 0; tune <= 12; tune++) {
                calls.add(new Call("fits", text, tune));
                calls.add(new Call("clashes", text, tune));
            }
        }
        for (int tune = -1; tune <= 12; tune++) {
            calls.add(new Call("alike", tune));
            calls.add(new Call("shift", tune, 0, 0));
            calls.add(new Call("shift", tune, 20, 40));
        }
    }

    private static void services(List<Call> calls) {
        for (int service = -1; service <= 60; service++) {
            for (int what = 0; what <= 4; what++) {
                calls.add(new Call("service", service, what));
            }
        }
    }

    private static void years(List<Call> calls) {
        for (int feast = -1; feast <= 20; feast++) {
            calls.add(new Call("when", feast, 2023));
            calls.add(new Call("whenAnew", feast, 2024));
        }
        calls.add(new Call("easter", 2024));
        calls.add(new Call("easterAnew", 2024));
        calls.add(new Call("weekday", 2024, 2, 29));
    }

    private static void days(List<Call> calls) {
        for (int month = 1; month <= 12; month++) {
            for (int day = 1; day <= 8; day++) {
                calls.add(new Call("kept", 2023, month, day));
                calls.add(new Call("theme", 2024, month, day));
            }
        }
        for (int text = -1; text <= 12; text++) {
            calls.add(new Call("why", text, 2023, 1, 1));
            calls.add(new Call("why", text, 2023, 1, 22));
            calls.add(new Call("why", text, 2024, 12, 29));
        }
    }

    /** Calls that answer where the services go on: on Sundays, as long as they still have their readings. */
    private static void held(List<Call> calls) {
        for (int day = 1; day <= 22; day += 7) {
            calls.add(new Call("sing", 2023, 1, day));
        }
        calls.add(new Call("sing", 2023, 2, 26));
        calls.add(new Call("sing", 2024, 3, 3));
        calls.add(new Call("sing", 2024, 12, 29));
    }

    /** Calls that answer what was told ahead of them. */
    private static void replaced(List<Call> calls) {
        calls.add(new Call("sundays", 3));
        for (int number = 0; number <= 12; number++) {
            calls.add(new Call("allowText", number, 1));
            calls.add(new Call("allowTune", number, 1));
        }
        for (int feast = -2; feast <= 20; feast++) {
            for (int cycle = 0; cycle <= 2; cycle++) {
                calls.add(new Call("reading", feast, cycle, 9));
            }
        }
    }

    /** Calls that answer how much was told. */
    private static void told(List<Call> calls) {
        for (int number = 0; number <= 12; number++) {
            calls.add(new Call("line", number, 1, 0));
            calls.add(new Call("phrase", number, 1, 0));
        }
        calls.add(new Call("text", 1700, 1));
        calls.add(new Call("tune", 1700, 0, 0));
        calls.add(new Call("feast", 5, 0, 5, 5));
        calls.add(new Call("moving", 5, 0, 5));
    }
}
