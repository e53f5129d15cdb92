import java.util.ArrayList;
import java.util.List;
import java.util.Set;

/**
 * The calls that only ask, of all promises but those that tell, allow, set or sing something, change nothing: what an
 * object answers behind them is what one answers on which they were not made.
 */
final class AskedCallsTest {
    private static final Set<String> ASKING = Set.of("fits", "clashes", "best", "alike", "metres", "shift", "easter",
            "easterAnew", "weekday", "kept", "when", "whenAnew", "theme", "why", "service", "sung");

    public static void main(String[] args) {
        List<Call> asking = new ArrayList<>();
        for (Call call : Asked.ALL) {
            if (ASKING.contains(call.name())) {
                asking.add(call);
            }
        }
        everyNameIsAsked(asking);
        for (Made made : List.of(Made.none(), Made.some(), Made.full())) {
            for (int first = 0; first < asking.size(); first += Made.MOST_FIRST) {
                made.isUnchangedBy(asking.subList(first, Math.min(first + Made.MOST_FIRST, asking.size())));
            }
        }
        Checks.finish();
    }

    private static void everyNameIsAsked(List<Call> asking) {
        for (String name : ASKING) {
            boolean isAsked = asking.stream().anyMatch(call -> call.name().equals(name));
            Checks.due(name + " is asked", true, isAsked);
        }
    }
}
