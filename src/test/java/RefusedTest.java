import java.util.ArrayList;
import java.util.List;
import java.util.Set;
import java.util.TreeSet;

/**
 * "Of several the first in this order, whatever the order at a call; nothing changes then."
 * Two objects are led to the same state; one of them gets a call more. If that is refused, or asks only, both stand
 * alike, and go on alike by undo() and back().
 */
public final class RefusedTest {
    private static final int BAD = Due.BAD;
    private static final int[] WILD = {Integer.MIN_VALUE, -70000, -2, 1000000, Integer.MAX_VALUE};
    private static final Set<String> ASKS_ONLY = Set.of("fault", "village", "party", "far", "soonest", "most", "least",
        "checks", "kinds", "copies", "agree", "honest", "shire", "count");
    private static final String[] STATES = {"new", "full text", "all full", "some asked", "two parts", "one alone",
        "a fault", "no party", "kept once"};

    private static final Set<String> refused = new TreeSet<>();

    public static void main(String[] args) {
        for (String state : STATES) {
            for (int[] call : calls()) {
                hold(state, call);
            }
            badOnes(state);
        }
        eachRefusalWasMet();
        Due.end();
    }

    private static final String[] NAMES = {"write", "fault", "lay", "village", "party", "far", "ask", "check", "strike",
        "undo", "soonest", "most", "least", "checks", "see", "kinds", "copies", "agree", "honest", "shire", "keep",
        "back", "count"};

    private static int run(NotAnOx x, int[] call) {
        int a = call[1];
        int b = call[2];
        int c = call[3];
        switch (NAMES[call[0]]) {
            case "write": return x.write(a);
            case "fault": return x.fault();
            case "lay": return x.lay();
            case "village": return x.village(a, b);
            case "party": return x.party(a, b);
            case "far": return x.far(a, b);
            case "ask": return x.ask(a, b);
            case "check": return x.check(a);
            case "strike": return x.strike(a);
            case "undo": return x.undo();
            case "soonest": return x.soonest(a);
            case "most": return x.most(a);
            case "least": return x.least(a);
            case "checks": return x.checks(a, b);
            case "see": return x.see(a, b);
            case "kinds": return x.kinds(a);
            case "copies": return x.copies();
            case "agree": return x.agree(a, b);
            case "honest": return x.honest(a, b, c);
            case "shire": return x.shire(a, b, c);
            case "keep": return x.keep();
            case "back": return x.back();
            default: return x.count(a);
        }
    }

    private static String told(int[] call) {
        return NAMES[call[0]] + "(" + call[1] + ", " + call[2] + ", " + call[3] + ")";
    }

    private static void add(List<int[]> calls, String name, int a, int b, int c) {
        for (int i = 0; i < NAMES.length; i++) {
            if (NAMES[i].equals(name)) {
                calls.add(new int[] {i, a, b, c});
            }
        }
    }

    private static List<int[]> calls() {
        List<int[]> calls = new ArrayList<>();
        for (String name : new String[] {"fault", "lay", "undo", "copies", "keep", "back"}) {
            add(calls, name, 0, 0, 0);
        }
        for (int letter : new int[] {-1, 31, 32, 126, 127}) {
            add(calls, "write", letter, 0, 0);
        }
        for (int v = -1; v <= 7; v++) {
            for (String name : new String[] {"check", "strike", "kinds", "soonest"}) {
                add(calls, name, v, 0, 0);
            }
            for (int p = -1; p <= 3; p++) {
                add(calls, "ask", p, v, 0);
            }
            add(calls, "far", v, 1, 0);
            add(calls, "agree", 0, v, 0);
            add(calls, "village", v, 4, 0);
            add(calls, "village", 4, v, 0);
            add(calls, "see", v, 0, 0);
            add(calls, "see", 0, 10 * v, 0);
        }
        for (int k = -1; k <= 8; k++) {
            add(calls, "most", k, 0, 0);
            add(calls, "least", k, 0, 0);
        }
        for (int n = -1; n <= 4; n++) {
            add(calls, "checks", n, 0, 0);
            add(calls, "checks", 3, n, 0);
            add(calls, "party", n, 1, 0);
            add(calls, "honest", 100 * n + 101, 3, 0);
            add(calls, "honest", 40, 3 * n, 1);
            add(calls, "shire", 2500 * n, 40, 0);
            add(calls, "shire", 5, 10 * n + 1, 1);
        }
        for (int what = -1; what <= 11; what++) {
            add(calls, "count", what, 0, 0);
        }
        return calls;
    }

    private static void hold(String state, int[] call) {
        NotAnOx x = led(state);
        NotAnOx twin = led(state);
        int got = run(x, call);
        String name = NAMES[call[0]];
        if (got < 0) {
            refused.add(name + " " + got);
        } else if (!ASKS_ONLY.contains(name)) {
            return;
        }
        String what = "by " + told(call) + " at " + state;
        Due.same(what, Look.at(x), Look.at(twin));
        goBack(what, x, twin);
    }

    /** What can be UNDONE and what is KEPT is the same, too. */
    private static void goBack(String what, NotAnOx x, NotAnOx twin) {
        for (int i = 0; i < 9; i++) {
            Due.due(what + ", then undo()", x.undo(), twin.undo());
            Due.same(what + ", then undo()", book(x), book(twin));
        }
        for (int i = 0; i < 3; i++) {
            Due.due(what + ", then back()", x.back(), twin.back());
            Due.same(what + ", then back()", book(x), book(twin));
        }
    }

    /** A few calls alone, so that a run stays within 512 of them. */
    private static String book(NotAnOx x) {
        StringBuilder all = new StringBuilder();
        for (int v = 0; v < 6; v++) {
            all.append(' ').append(x.village(v, 2));
        }
        for (int what = 3; what <= 6; what++) {
            all.append(' ').append(x.count(what));
        }
        return all.append(' ').append(x.village(1, 1)).append(' ').append(x.party(0, 0)).toString();
    }

    private static NotAnOx led(String state) {
        NotAnOx x = new NotAnOx();
        switch (state) {
            case "full text":
                for (int i = 0; i < 200; i++) {
                    x.write("v0,1;".charAt(i % 5));
                }
                return x;
            case "all full":
                leadToAllFull(x);
                return x;
            case "some asked":
                x.ask(0, 1);
                x.ask(1, 4);
                x.check(1);
                x.ask(1, 3);
                x.strike(4);
                x.ask(0, 0);
                x.see(5, 7);
                return x;
            case "two parts":
                Due.writeInto(x, "v1,9;v4,8;v0,7;v3,6;w0,1,1;w2,3,5;p0;p2;p2;");
                x.lay();
                x.ask(0, 0);
                x.ask(0, 1);
                return x;
            case "one alone":
                Due.writeInto(x, "v0,9;p0;");
                x.lay();
                return x;
            case "a fault":
                Due.writeInto(x, "v0,9;p0;v");
                x.ask(0, 2);
                return x;
            case "no party":
                Due.writeInto(x, "v0,9;v1,8;w0,1,4;");
                x.ask(0, 2);
                x.see(0, 4);
                return x;
            case "kept once":
                x.ask(1, 2);
                x.keep();
                x.ask(0, 5);
                x.check(5);
                return x;
            default:
                return x;
        }
    }

    private static void leadToAllFull(NotAnOx x) {
        for (int v = 0; v < 6; v++) {
            x.ask(v % 2, v);
        }
        x.keep();
        for (int v = 0; v < 6; v++) {
            x.check(v);
        }
        x.keep();
        for (int i = 0; i < 6; i++) {
            x.see(i, i);
        }
        x.strike(0);
        x.ask(0, 0);
        x.check(0);
    }

    /** A number that is none makes a call BAD in any state, whatever else would be refused. */
    private static void badOnes(String state) {
        for (int wild : WILD) {
            NotAnOx x = led(state);
            int villages = x.count(0);
            String at = " of " + wild + " at " + state;
            Due.due("write" + at, x.write(wild), BAD);
            for (int v = 0; v < villages; v++) {
                Due.due("village, what" + at, x.village(v, wild), BAD);
                Due.due("far" + at, x.far(v, wild), BAD);
                Due.due("far, turned" + at, x.far(wild, v), BAD);
                Due.due("ask, PARTY" + at, x.ask(wild, v), BAD);
                Due.due("see, n" + at, x.see(v, wild), BAD);
                Due.due("agree" + at, x.agree(v, wild), BAD);
                Due.due("agree, turned" + at, x.agree(wild, v), BAD);
                Due.due("agree, alike" + at, x.agree(v, v), BAD);
            }
            for (int what = 0; what <= 5; what++) {
                Due.due("village" + at, x.village(wild, what), BAD);
            }
            Due.due("party" + at, x.party(wild, 0), BAD);
            Due.due("party, what" + at, x.party(0, wild), BAD);
            Due.due("ask, VILLAGE" + at, x.ask(0, wild), BAD);
            Due.due("check" + at, x.check(wild), BAD);
            Due.due("strike" + at, x.strike(wild), BAD);
            Due.due("soonest" + at, x.soonest(wild), BAD);
            Due.due("most" + at, x.most(wild), BAD);
            Due.due("least" + at, x.least(wild), BAD);
            Due.due("checks" + at, x.checks(wild, 0), BAD);
            Due.due("checks, what" + at, x.checks(3, wild), BAD);
            Due.due("see" + at, x.see(wild, 0), BAD);
            Due.due("kinds" + at, x.kinds(wild), BAD);
            Due.due("honest, n" + at, x.honest(wild, 5, 0), BAD);
            Due.due("honest, x" + at, x.honest(5, wild, 0), BAD);
            Due.due("honest, part" + at, x.honest(5, 5, wild), BAD);
            Due.due("shire, z" + at, x.shire(wild, 5, 0), BAD);
            Due.due("shire, n" + at, x.shire(5, wild, 0), BAD);
            Due.due("shire, what" + at, x.shire(5, 5, wild), BAD);
            Due.due("count" + at, x.count(wild), BAD);
            Due.same("BAD ones" + at, Look.at(x), Look.at(led(state)));
        }
    }

    /** So that a state that is led to wrongly does not leave a refusal untried. */
    private static void eachRefusalWasMet() {
        String[] due = {"write -1", "write -3", "fault -4", "lay -2", "village -1", "village -4", "party -1", "far -1",
            "far -4", "ask -1", "ask -2", "check -1", "check -2", "strike -1", "strike -2", "undo -2", "soonest -1",
            "soonest -4", "most -1", "most -4", "least -1", "least -4", "checks -1", "see -1", "see -3", "kinds -1",
            "kinds -2", "agree -1", "agree -2", "honest -1", "shire -1", "keep -3", "back -2", "count -1"};
        Due.same("refusals", refused.toString(), new TreeSet<>(List.of(due)).toString());
    }
}
