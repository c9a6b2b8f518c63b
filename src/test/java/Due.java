/** Holds answers against those that are due, and tells the wrong ones. */
final class Due {
    static final int BAD = -1, NO = -2, FULL = -3, NONE = -4;

    private static int wrong = 0;
    private static int looked = 0;

    private Due() {
    }

    static void due(String call, long got, long want) {
        looked++;
        if (got != want) {
            wrong++;
            if (wrong <= 40) {
                System.out.println(call + " answered " + got + ", due is " + want);
            }
        }
    }

    /** Two looks at objects that should stand alike. */
    static void same(String what, String got, String want) {
        due(what + ":\n" + got + "\nis held against\n" + want + "\nalike", got.equals(want) ? 1 : 0, 1);
    }

    static NotAnOx written(String text) {
        NotAnOx x = new NotAnOx();
        writeInto(x, text);
        return x;
    }

    static void writeInto(NotAnOx x, String text) {
        for (int i = 0; i < text.length(); i++) {
            x.write(text.charAt(i));
        }
    }

    static NotAnOx laid(String text) {
        NotAnOx x = written(text);
        if (x.lay() < 1) {
            due("lay() of " + text, 0, 1);
        }
        return x;
    }

    static void end() {
        System.out.println(looked + " answers, " + wrong + " not as due");
        if (wrong != 0 || looked == 0) {
            System.exit(1);
        }
    }
}
