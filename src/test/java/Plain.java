import java.math.BigInteger;
import java.util.ArrayDeque;
import java.util.ArrayList;
import java.util.Deque;
import java.util.List;
import java.util.function.Consumer;
import java.util.regex.Matcher;
import java.util.regex.Pattern;

/** A second writing of the document, by lists and by trying all; slow, and on other ways than the class itself. */
final class Plain {
    static final int BAD = -1, NO = -2, FULL = -3, NONE = -4;

    private static final Pattern ITEM =
        Pattern.compile("v(\\d\\d?),(\\d\\d?);|w(\\d\\d?),(\\d\\d?),(\\d\\d?);|p(\\d\\d?);");

    /** What stands: one village is {kind, oxen, written or NONE, checked}, one party {place, days}. */
    private static final class Shire {
        final List<int[]> villages = new ArrayList<>();
        final List<int[]> parties = new ArrayList<>();
        int[][] ways = new int[7][7];
        int[][] known = new int[7][7];

        Shire copy() {
            Shire other = new Shire();
            for (int[] v : villages) {
                other.villages.add(v.clone());
            }
            for (int[] p : parties) {
                other.parties.add(p.clone());
            }
            other.ways = ways;
            other.known = known;
            return other;
        }

        boolean in(int v) {
            return villages.get(v)[2] != NONE;
        }

        List<Integer> askedNear(int v) {
            List<Integer> near = new ArrayList<>();
            for (int u = 0; u < villages.size(); u++) {
                if (ways[v][u] > 0 && in(u)) {
                    near.add(u);
                }
            }
            return near;
        }

        /** Ways never change once a shire is laid; 0 is not known yet, so days are known with 10 more. */
        int far(int a, int b) {
            if (known[a][b] == 0) {
                known[a][b] = 10 + walkedFar(a, b);
            }
            return known[a][b] - 10;
        }

        /** By days walked: after so many days, where can one be. */
        private int walkedFar(int a, int b) {
            boolean[][] at = new boolean[141][villages.size()];
            at[0][a] = true;
            for (int day = 0; day <= 120; day++) {
                if (at[day][b]) {
                    return day;
                }
                for (int u = 0; u < villages.size(); u++) {
                    for (int t = 0; t < villages.size(); t++) {
                        if (at[day][u] && ways[u][t] > 0) {
                            at[day + ways[u][t]][t] = true;
                        }
                    }
                }
            }
            return NONE;
        }

        int swear(int v, boolean really) {
            int[] it = villages.get(v);
            List<Integer> near = askedNear(v);
            boolean honestNear = near.stream().anyMatch(u -> villages.get(u)[0] == 0);
            int sworn = it[1];
            if (it[0] == 1 && !honestNear) {
                sworn = it[1] >> 1;
            } else if (it[0] == 2 && !honestNear) {
                sworn = 0;
            } else if (it[0] == 3 && !near.isEmpty()) {
                sworn = villages.get(near.get(0))[2];
            } else if (it[0] == 4 && !near.isEmpty()) {
                sworn = 0;
                if (really) {
                    villages.get(near.get(0))[1] += it[1];
                    it[1] = 0;
                }
            }
            if (really) {
                it[2] = sworn;
            }
            return sworn;
        }

        boolean ask(int p, int v) {
            int[] party = parties.get(p);
            int days = far(party[0], v);
            if (in(v) || days == NONE) {
                return false;
            }
            party[0] = v;
            party[1] += days + 1;
            swear(v, true);
            return true;
        }

        boolean check(int v) {
            int[] it = villages.get(v);
            if (!in(v) || it[3] == 1) {
                return false;
            }
            it[2] = it[1];
            it[3] = 1;
            return true;
        }

        boolean strike(int v) {
            if (!in(v)) {
                return false;
            }
            villages.get(v)[2] = NONE;
            villages.get(v)[3] = 0;
            return true;
        }

        int found() {
            return villages.stream().filter(v -> v[2] != NONE).mapToInt(v -> v[2]).sum();
        }

        int days() {
            return parties.stream().mapToInt(p -> p[1]).max().getAsInt();
        }

        List<Integer> rest() {
            List<Integer> rest = new ArrayList<>();
            for (int v = 0; v < villages.size(); v++) {
                if (!in(v)) {
                    rest.add(v);
                }
            }
            return rest;
        }
    }

    private final StringBuilder text = new StringBuilder();
    private Shire now;
    private final Deque<Shire> past = new ArrayDeque<>();
    private final Deque<Shire> kept = new ArrayDeque<>();
    private final List<int[]> seen = new ArrayList<>();

    Plain() {
        text.append("v0,12;v1,20;v2,9;v3,15;v4,18;v1,7;w0,1,2;w1,2,3;w2,3,1;w3,4,2;w4,5,4;w0,5,6;w1,4,3;p0;p3;");
        lay();
        text.setLength(0);
    }

    private int read(Shire into) {
        Matcher m = ITEM.matcher(text);
        int at = 0;
        while (at < text.length()) {
            m.region(at, text.length());
            if (!m.lookingAt() || !take(m, into)) {
                return at;
            }
            at = m.end();
        }
        return NONE;
    }

    private static boolean take(Matcher m, Shire into) {
        int told = into.villages.size();
        if (m.group(1) != null) {
            int kind = Integer.parseInt(m.group(1));
            int oxen = Integer.parseInt(m.group(2));
            return kind < 5 && oxen < 61 && told < 7 && into.villages.add(new int[] {kind, oxen, NONE, 0});
        }
        if (m.group(6) != null) {
            int v = Integer.parseInt(m.group(6));
            return v < told && into.parties.size() < 3 && into.parties.add(new int[] {v, 0});
        }
        int a = Integer.parseInt(m.group(3));
        int b = Integer.parseInt(m.group(4));
        int days = Integer.parseInt(m.group(5));
        if (a >= told || b >= told || a == b || days == 0 || days > 20) {
            return false;
        }
        into.ways[a][b] = days;
        into.ways[b][a] = days;
        return true;
    }

    private boolean noVillage(int v) {
        return v < 0 || v >= now.villages.size();
    }

    int write(int letter) {
        if (letter < 32 || letter > 126) {
            return BAD;
        }
        return text.length() == 200 ? FULL : text.append((char) letter).length();
    }

    int wipe() {
        int was = text.length();
        text.setLength(0);
        return was;
    }

    int fault() {
        return read(new Shire());
    }

    int lay() {
        Shire next = new Shire();
        if (read(next) != NONE || next.villages.isEmpty() || next.parties.isEmpty()) {
            return NO;
        }
        now = next;
        past.clear();
        kept.clear();
        seen.clear();
        return now.villages.size();
    }

    int village(int v, int what) {
        if (noVillage(v) || what < 0 || what > 5) {
            return BAD;
        }
        if (what < 4) {
            return now.villages.get(v)[what];
        }
        if (what == 4) {
            return now.in(v) ? NONE : now.swear(v, false);
        }
        int bits = 0;
        for (int u = 0; u < 7; u++) {
            bits += now.ways[v][u] > 0 ? 1 << u : 0;
        }
        return bits;
    }

    int party(int p, int what) {
        return p < 0 || p >= now.parties.size() || what < 0 || what > 1 ? BAD : now.parties.get(p)[what];
    }

    int far(int a, int b) {
        return noVillage(a) || noVillage(b) ? BAD : now.far(a, b);
    }

    private void remember(Shire before) {
        past.push(before);
        if (past.size() > 8) {
            past.removeLast();
        }
    }

    int ask(int p, int v) {
        if (p < 0 || p >= now.parties.size() || noVillage(v)) {
            return BAD;
        }
        Shire before = now.copy();
        if (!now.ask(p, v)) {
            return NO;
        }
        remember(before);
        return now.villages.get(v)[2];
    }

    int check(int v) {
        if (noVillage(v)) {
            return BAD;
        }
        Shire before = now.copy();
        if (!now.check(v)) {
            return NO;
        }
        remember(before);
        return 500 + now.found() - before.found();
    }

    int strike(int v) {
        if (noVillage(v)) {
            return BAD;
        }
        Shire before = now.copy();
        if (!now.strike(v)) {
            return NO;
        }
        remember(before);
        return before.found() - now.found();
    }

    int undo() {
        if (past.isEmpty()) {
            return NO;
        }
        now = past.pop();
        return past.size();
    }

    /** All orders of a list, the first ones first. */
    private static void eachOrder(List<Integer> left, List<Integer> taken, Consumer<List<Integer>> to) {
        if (left.isEmpty()) {
            to.accept(taken);
        }
        for (Integer v : left) {
            List<Integer> others = new ArrayList<>(left);
            others.remove(v);
            taken.add(v);
            eachOrder(others, taken, to);
            taken.remove(taken.size() - 1);
        }
    }

    private int daysOf(int p, List<Integer> own) {
        int[] fewest = {NONE};
        eachOrder(own, new ArrayList<>(), order -> {
            int at = now.parties.get(p)[0];
            int days = now.parties.get(p)[1];
            for (int v : order) {
                int far = now.far(at, v);
                if (far == NONE) {
                    return;
                }
                days += far + 1;
                at = v;
            }
            if (fewest[0] == NONE || days < fewest[0]) {
                fewest[0] = days;
            }
        });
        return fewest[0];
    }

    private int sharedDays(List<Integer> rest, int[] who) {
        int most = 0;
        for (int p = 0; p < now.parties.size(); p++) {
            List<Integer> own = new ArrayList<>();
            for (int i = 0; i < who.length; i++) {
                if (who[i] == p) {
                    own.add(rest.get(i));
                }
            }
            int days = daysOf(p, own);
            if (days == NONE) {
                return NONE;
            }
            most = Math.max(most, days);
        }
        return most;
    }

    private void share(List<Integer> rest, int[] who, int at, int[][] best) {
        if (at == who.length) {
            int days = sharedDays(rest, who);
            if (days != NONE && (best[0] == null || days < best[0][0])) {
                best[0] = new int[] {days};
                best[1] = who.clone();
            }
            return;
        }
        for (int p = 0; p < now.parties.size(); p++) {
            who[at] = p;
            share(rest, who, at + 1, best);
        }
    }

    int soonest(int v) {
        if (v != -1 && noVillage(v)) {
            return BAD;
        }
        List<Integer> rest = now.rest();
        int[][] best = new int[2][];
        share(rest, new int[rest.size()], 0, best);
        if (best[0] == null || v != -1 && now.in(v)) {
            return NONE;
        }
        return v == -1 ? best[0][0] : best[1][rest.indexOf(v)];
    }

    private int order(int k, int sign) {
        if (k < 0 || k > 7) {
            return BAD;
        }
        List<List<Integer>> best = new ArrayList<>();
        int[] found = {0};
        eachOrder(now.rest(), new ArrayList<>(), order -> {
            Shire trial = now.copy();
            order.forEach(v -> trial.swear(v, true));
            if (best.isEmpty() || sign * trial.found() > sign * found[0]) {
                best.clear();
                best.add(new ArrayList<>(order));
                found[0] = trial.found();
            }
        });
        if (k == 0) {
            return found[0];
        }
        return k > best.get(0).size() ? NONE : best.get(0).get(k - 1);
    }

    int most(int k) {
        return order(k, 1);
    }

    int least(int k) {
        return order(k, -1);
    }

    int checks(int n, int what) {
        if (n < 1 || n > 3 || what < 0 || what > 1) {
            return BAD;
        }
        int most = Integer.MIN_VALUE;
        int which = 0;
        for (int size = n; size >= 0 && most == Integer.MIN_VALUE; size--) {
            for (int set = 127; set >= 0; set--) {
                Shire trial = now.copy();
                int done = 0;
                for (int v = 0; v < now.villages.size(); v++) {
                    done += (set >> v) % 2 == 1 && trial.check(v) ? 1 : 0;
                }
                if (done == size && Integer.bitCount(set) == size && trial.found() - now.found() >= most) {
                    most = trial.found() - now.found();
                    which = set;
                }
            }
        }
        return what == 0 ? most + 500 : which;
    }

    int see(int v, int n) {
        if (noVillage(v) || n < 0 || n > 60) {
            return BAD;
        }
        if (seen.size() == 6) {
            return FULL;
        }
        seen.add(new int[] {v, n});
        return seen.size();
    }

    int forget() {
        int were = seen.size();
        seen.clear();
        return were;
    }

    int kinds(int v) {
        if (noVillage(v)) {
            return BAD;
        }
        if (now.in(v)) {
            return NO;
        }
        int bits = 0;
        for (int kind = 0; kind < 5; kind++) {
            Shire trial = now.copy();
            trial.villages.get(v)[0] = kind;
            int sworn = trial.swear(v, true);
            bits += seen.stream().allMatch(s -> s[0] != v || s[1] == sworn) ? 1 << kind : 0;
        }
        return bits;
    }

    int copies() {
        int bits = 0;
        for (int v = 0; v < now.villages.size(); v++) {
            int written = now.villages.get(v)[2];
            boolean same = now.askedNear(v).stream().anyMatch(u -> now.villages.get(u)[2] == written);
            bits += written != NONE && same ? 1 << v : 0;
        }
        return bits;
    }

    int agree(int a, int b) {
        if (noVillage(a) || noVillage(b) || a == b) {
            return BAD;
        }
        if (!now.in(a) || !now.in(b)) {
            return NO;
        }
        int[] one = now.villages.get(a);
        int[] two = now.villages.get(b);
        return one[1] + two[1] == one[2] + two[2] ? 1 : 0;
    }

    private BigInteger chance(Shire drawn, List<Integer> rest, int at, int n, int x) {
        if (at == rest.size()) {
            Shire trial = drawn.copy();
            rest.forEach(v -> trial.swear(v, true));
            return trial.found() >= n ? BigInteger.ONE : BigInteger.ZERO;
        }
        Shire turned = drawn.copy();
        turned.villages.get(rest.get(at))[0] = 0;
        return chance(turned, rest, at + 1, n, x).multiply(BigInteger.valueOf(x))
            .add(chance(drawn, rest, at + 1, n, x).multiply(BigInteger.valueOf(10 - x)));
    }

    int honest(int n, int x, int part) {
        if (n < 0 || n > 500 || x < 0 || x > 10 || part < 0 || part > 1) {
            return BAD;
        }
        List<Integer> rest = now.rest();
        BigInteger above = chance(now, rest, 0, n, x);
        BigInteger below = BigInteger.TEN.pow(rest.size());
        return (part == 0 ? above : below).divide(above.gcd(below)).intValueExact();
    }

    int shire(int z, int n, int what) {
        if (z < 0 || z > 9999 || n < 1 || n > 40 || what < 0 || what > 1) {
            return BAD;
        }
        Shire trial = now.copy();
        for (int k = 0; k < n; k++) {
            BigInteger x = BigInteger.valueOf(7919L * z + 6151 * k + 1);
            int draw = x.modPow(BigInteger.TWO, BigInteger.valueOf(65521)).intValue() >> 1;
            int v = (draw >> 3) % trial.villages.size();
            int turn = (draw >> 6) % 3;
            if (!trial.ask(draw % trial.parties.size(), v)) {
                if (turn == 0) {
                    trial.check(v);
                } else if (turn == 1) {
                    trial.strike(v);
                }
            }
        }
        return what == 0 ? trial.found() : trial.days();
    }

    int keep() {
        if (kept.size() == 2) {
            return FULL;
        }
        kept.push(now.copy());
        return kept.size();
    }

    int back() {
        if (kept.isEmpty()) {
            return NO;
        }
        now = kept.pop();
        past.clear();
        return kept.size();
    }

    int count(int what) {
        int checked = (int) now.villages.stream().filter(v -> v[3] == 1).count();
        int oxen = now.villages.stream().mapToInt(v -> v[1]).sum();
        int[] all = {now.villages.size(), now.parties.size(), now.villages.size() - now.rest().size(), checked,
            now.found(), oxen, now.days(), seen.size(), past.size(), kept.size(), text.length()};
        return what < 0 || what >= all.length ? BAD : all[what];
    }
}
