import java.util.Arrays;

/** One call of the class, told by its name and its arguments; a boolean counts 1 or 0. */
record Call(String name, int... a) {
    int on(Hymnwright x) {
        switch (name) {
            case "text": return x.text(a[0], a[1]);
            case "line": return x.line(a[0], a[1], a[2]);
            case "tune": return x.tune(a[0], a[1], a[2]);
            case "phrase": return x.phrase(a[0], a[1], a[2]);
            case "fits": return x.fits(a[0], a[1]);
            case "clashes": return x.clashes(a[0], a[1]);
            case "best": return x.best(a[0]);
            case "alike": return x.alike(a[0]);
            case "metres": return x.metres();
            case "allowText": return x.allowText(a[0], a[1] == 1) ? 1 : 0;
            case "allowTune": return x.allowTune(a[0], a[1] == 1) ? 1 : 0;
            case "shift": return x.shift(a[0], a[1], a[2]);
            case "easter": return x.easter(a[0]);
            case "easterAnew": return x.easterAnew(a[0]);
            case "weekday": return x.weekday(a[0], a[1], a[2]);
            case "feast": return x.feast(a[0], a[1] == 1, a[2], a[3]);
            case "moving": return x.moving(a[0], a[1] == 1, a[2]);
            case "sundays": return x.sundays(a[0]);
            case "reading": return x.reading(a[0], a[1], a[2]);
            case "kept": return x.kept(a[0], a[1], a[2]);
            case "when": return x.when(a[0], a[1]);
            case "whenAnew": return x.whenAnew(a[0], a[1]);
            case "theme": return x.theme(a[0], a[1], a[2]);
            case "why": return x.why(a[0], a[1], a[2], a[3]);
            case "sing": return x.sing(a[0], a[1], a[2]);
            case "service": return x.service(a[0], a[1]);
            case "sung": return x.sung(a[0]);
            default: throw new AssertionError("no such call: " + name);
        }
    }

    /** The number, or the name of what was thrown. */
    String answer(Hymnwright x) {
        try {
            return Integer.toString(on(x));
        } catch (RuntimeException e) {
            return e.getClass().getName();
        }
    }

    @Override
    public String toString() {
        String list = Arrays.toString(a);
        return name + "(" + list.substring(1, list.length() - 1) + ")";
    }
}
