import java.util.Random;

/** Long seeded runs over all calls: the class answers as Plain does. */
public final class PlainTest {
    private static final int RUNS = 250;
    private static final int CALLS = 512;

    private final Random random;
    private final NotAnOx x = new NotAnOx();
    private final Plain plain = new Plain();
    private final String run;
    private int calls = 0;

    private PlainTest(int seed) {
        random = new Random(seed);
        run = "seed " + seed + ", call ";
    }

    public static void main(String[] args) {
        for (int seed = 0; seed < RUNS; seed++) {
            new PlainTest(seed).go();
        }
        Due.end();
    }

    private void go() {
        if (random.nextInt(8) != 0) {
            writeText();
        }
        // most calls are cheap; the dear ones of Plain (all orders, all sharings) come seldom
        while (calls < CALLS) {
            int turn = random.nextInt(100);
            if (turn < 45) {
                changeBook();
            } else if (turn < 80) {
                look();
            } else if (turn < 90) {
                lookAtSeen();
            } else if (turn < 94) {
                chances();
            } else if (turn < 95) {
                bestOrders();
            } else if (turn < 99) {
                keepAndBack();
            } else if (random.nextInt(3) == 0) {
                writeText();
            }
        }
    }

    private void due(String call, int got, int want) {
        calls++;
        // what an object answers behind its 512th call is free
        if (calls <= CALLS) {
            Due.due(run + calls + ": " + call, got, want);
        }
    }

    /** One below and one above what there is are drawn now and then, too. */
    private int near(int high) {
        return random.nextInt(12) == 0 ? random.nextInt(high + 3) - 1 : random.nextInt(high + 1);
    }

    private int someVillage() {
        return near(plain.count(0) - 1);
    }

    private int someParty() {
        return near(plain.count(1) - 1);
    }

    private void writeText() {
        due("wipe()", x.wipe(), plain.wipe());
        String text = someText();
        for (int i = 0; i < text.length(); i++) {
            int letter = text.charAt(i);
            due("write(" + letter + ")", x.write(letter), plain.write(letter));
        }
        due("fault() of " + text, x.fault(), plain.fault());
        due("lay() of " + text, x.lay(), plain.lay());
    }

    private String someText() {
        StringBuilder text = new StringBuilder();
        int villages = 1 + random.nextInt(7);
        int high = random.nextInt(3) == 0 ? 4 : 60;
        for (int v = 0; v < villages; v++) {
            text.append('v').append(random.nextInt(5)).append(',').append(random.nextInt(high + 1)).append(';');
        }
        int ways = villages == 1 ? 0 : random.nextInt(2 * villages + 1);
        for (int i = 0; i < ways; i++) {
            int a = random.nextInt(villages);
            int b = (a + 1 + random.nextInt(villages - 1)) % villages;
            text.append('w').append(a).append(',').append(b).append(',').append(1 + random.nextInt(20)).append(';');
        }
        int parties = 1 + random.nextInt(3);
        for (int p = 0; p < parties; p++) {
            text.append('p').append(random.nextInt(villages)).append(';');
        }
        if (random.nextInt(4) == 0) {
            String signs = "vwp,;0123456789 x";
            text.setCharAt(random.nextInt(text.length()), signs.charAt(random.nextInt(signs.length())));
        }
        return text.toString();
    }

    private void changeBook() {
        int v = someVillage();
        int turn = random.nextInt(10);
        if (turn < 4) {
            int p = someParty();
            due("ask(" + p + ", " + v + ")", x.ask(p, v), plain.ask(p, v));
        } else if (turn < 6) {
            due("check(" + v + ")", x.check(v), plain.check(v));
        } else if (turn < 9) {
            due("strike(" + v + ")", x.strike(v), plain.strike(v));
        } else {
            for (int i = random.nextInt(10); i >= 0; i--) {
                due("undo()", x.undo(), plain.undo());
            }
        }
    }

    private void look() {
        int v = someVillage();
        int what = near(5);
        due("village(" + v + ", " + what + ")", x.village(v, what), plain.village(v, what));
        int p = someParty();
        int which = near(1);
        due("party(" + p + ", " + which + ")", x.party(p, which), plain.party(p, which));
        int u = someVillage();
        due("far(" + u + ", " + v + ")", x.far(u, v), plain.far(u, v));
        int n = near(3);
        due("checks(" + n + ", " + which + ")", x.checks(n, which), plain.checks(n, which));
        due("agree(" + u + ", " + v + ")", x.agree(u, v), plain.agree(u, v));
        due("copies()", x.copies(), plain.copies());
        int many = near(10);
        due("count(" + many + ")", x.count(many), plain.count(many));
    }

    private void lookAtSeen() {
        int v = someVillage();
        int n = random.nextBoolean() ? near(60) : plain.village(v, 4);
        due("see(" + v + ", " + n + ")", x.see(v, n), plain.see(v, n));
        for (int u = 0; u < plain.count(0); u++) {
            due("kinds(" + u + ")", x.kinds(u), plain.kinds(u));
        }
        due("kinds(" + v + ")", x.kinds(v), plain.kinds(v));
        if (random.nextInt(4) == 0) {
            due("forget()", x.forget(), plain.forget());
        }
    }

    private void chances() {
        int n = random.nextInt(4) == 0 ? near(500) : near(plain.count(5) + 1);
        int of = near(10);
        int part = near(1);
        due("honest(" + n + ", " + of + ", " + part + ")", x.honest(n, of, part), plain.honest(n, of, part));
        int z = near(9999);
        int steps = near(39) + 1;
        due("shire(" + z + ", " + steps + ", " + part + ")", x.shire(z, steps, part), plain.shire(z, steps, part));
    }

    private void bestOrders() {
        int k = near(7);
        due("most(" + k + ")", x.most(k), plain.most(k));
        due("most(0)", x.most(0), plain.most(0));
        due("least(" + k + ")", x.least(k), plain.least(k));
        due("least(0)", x.least(0), plain.least(0));
        int v = someVillage();
        due("soonest(-1)", x.soonest(-1), plain.soonest(-1));
        due("soonest(" + v + ")", x.soonest(v), plain.soonest(v));
    }

    private void keepAndBack() {
        if (random.nextInt(5) < 3) {
            due("keep()", x.keep(), plain.keep());
        } else {
            due("back()", x.back(), plain.back());
        }
    }
}
