/** Asks an object all that can be asked of it, so that two objects can be held against each other. */
final class Look {
    private Look() {
    }

    /** Some 180 calls of seven villages, none of which changes anything. */
    static String at(NotAnOx x) {
        StringBuilder all = new StringBuilder(shortly(x));
        int villages = x.count(0);
        all.append(" fault ").append(x.fault()).append(" copies ").append(x.copies());
        for (int a = 0; a < villages; a++) {
            all.append("\nvillage ").append(a).append(':');
            for (int what = 0; what <= 5; what++) {
                all.append(' ').append(x.village(a, what));
            }
            all.append(" kinds ").append(x.kinds(a)).append(" who ").append(x.soonest(a)).append(" far, agree");
            for (int b = 0; b < a; b++) {
                all.append(' ').append(x.far(a, b)).append(' ').append(x.agree(a, b));
            }
        }
        all.append("\nsoonest ").append(x.soonest(-1));
        all.append(" most ").append(x.most(0)).append(' ').append(x.most(1));
        all.append(" least ").append(x.least(0)).append(' ').append(x.least(1));
        for (int n = 1; n <= 3; n++) {
            all.append(" checks ").append(x.checks(n, 0)).append(' ').append(x.checks(n, 1));
        }
        all.append(" honest ").append(x.honest(40, 3, 0)).append('/').append(x.honest(40, 3, 1));
        all.append(" shire ").append(x.shire(7, 12, 0)).append(' ').append(x.shire(7, 12, 1));
        return all.toString();
    }

    /** Some 40 calls: what asking, checking and striking change. */
    static String shortly(NotAnOx x) {
        StringBuilder all = new StringBuilder("count");
        for (int what = 0; what <= 10; what++) {
            all.append(' ').append(x.count(what));
        }
        for (int p = 0; p < x.count(1); p++) {
            all.append(" party ").append(x.party(p, 0)).append(' ').append(x.party(p, 1));
        }
        for (int v = 0; v < x.count(0); v++) {
            all.append(" village ").append(x.village(v, 1)).append(' ').append(x.village(v, 2));
        }
        return all.toString();
    }
}
