/** Promises 22 to 26: honest, shire, keep, back, count. */
public final class ChanceTest {
    private static final int BAD = Due.BAD, NO = Due.NO, FULL = Due.FULL;

    public static void main(String[] args) {
        honest();
        honestNeighbours();
        honestOfSeven();
        shire();
        shireRefused();
        keep();
        keepAndUndo();
        count();
        Due.end();
    }

    private static void chance(NotAnOx x, int n, int of, int above, int below) {
        Due.due("honest(" + n + ", " + of + ", 0)", x.honest(n, of, 0), above);
        Due.due("honest(" + n + ", " + of + ", 1)", x.honest(n, of, 1), below);
    }

    private static void honest() {
        NotAnOx x = Due.laid("v2,10;v1,20;p0;p1;");
        Due.due("honest(-1, 1, 0)", x.honest(-1, 1, 0), BAD);
        Due.due("honest(501, 1, 0)", x.honest(501, 1, 0), BAD);
        Due.due("honest(1, -1, 0)", x.honest(1, -1, 0), BAD);
        Due.due("honest(1, 11, 0)", x.honest(1, 11, 0), BAD);
        Due.due("honest(1, 1, -1)", x.honest(1, 1, -1), BAD);
        Due.due("honest(1, 1, 2)", x.honest(1, 1, 2), BAD);
        // 10 (no one), 20 (v0 or v1 alone: 20, 20), 30 (both)
        chance(x, 0, 3, 1, 1);
        chance(x, 10, 3, 1, 1);
        chance(x, 11, 3, 51, 100);
        chance(x, 20, 3, 51, 100);
        chance(x, 21, 3, 9, 100);
        chance(x, 30, 3, 9, 100);
        chance(x, 31, 3, 0, 1);
        chance(x, 500, 10, 0, 1);
        chance(x, 30, 10, 1, 1);
        chance(x, 11, 0, 0, 1);
        chance(x, 30, 5, 1, 4);
        x.ask(1, 1);
        // what is in the book stays as it swore: 10
        chance(x, 20, 3, 3, 10);
        chance(x, 21, 3, 0, 1);
        x.ask(0, 0);
        chance(x, 10, 3, 1, 1);
        chance(x, 11, 3, 0, 1);
    }

    private static void honestNeighbours() {
        // a waste one that turns out honest makes its neighbours swear to all
        NotAnOx x = Due.laid("v2,10;v2,20;v1,40;w0,1,1;w1,2,1;p0;");
        // by 0 1 2: --- 20, --H 40, -H- 60, -HH 60, H-- 50, H-H 70, HH- 70, HHH 70
        chance(x, 20, 5, 1, 1);
        chance(x, 21, 5, 7, 8);
        chance(x, 51, 5, 5, 8);
        chance(x, 61, 5, 3, 8);
        chance(x, 61, 1, 19, 1000);
        // a mover that turns out honest keeps its own; all are asked by number
        NotAnOx y = Due.laid("v4,10;v4,20;w0,1,1;p1;");
        chance(y, 11, 2, 1, 5);
        chance(y, 30, 2, 1, 5);
        y.ask(0, 1);
        chance(y, 30, 2, 1, 5);
        chance(y, 20, 2, 1, 1);
    }

    private static void honestOfSeven() {
        NotAnOx x = Due.laid("v2,60;v2,60;v2,60;v2,60;v2,60;v2,60;v2,60;p0;");
        chance(x, 420, 1, 1, 10000000);
        chance(x, 420, 9, 4782969, 10000000);
        chance(x, 1, 1, 10000000 - 4782969, 10000000);
        chance(x, 361, 5, 1, 128);
        // eight of 128
        chance(x, 301, 5, 1, 16);
    }

    private static void shire() {
        NotAnOx x = Due.laid("v0,10;v1,21;w0,1,3;p0;p1;");
        // z 0, k 0: x 1, draw 0: party 0 asks village 0
        Due.due("one step, found", x.shire(0, 1, 0), 10);
        Due.due("one step, days", x.shire(0, 1, 1), 1);
        // k 1: x 6152, draw 20743: village 20743 / 8 = 2592 mod 2 = 0 is in the book, so it is checked
        Due.due("two steps, found", x.shire(0, 2, 0), 10);
        Due.due("two steps, days", x.shire(0, 2, 1), 1);
        Due.due("nothing changes", x.count(2), 0);
        Due.due("nothing to undo", x.count(8), 0);
        x.ask(0, 1);
        // from now on: village 0 is asked from 1
        Due.due("from now on, found", x.shire(0, 1, 0), 20);
        Due.due("from now on, days", x.shire(0, 1, 1), 8);
        NotAnOx s = Due.laid("v0,1;v0,2;v0,3;v0,4;v0,5;v0,6;v0,7;w0,2,1;w2,4,5;p0;p2;p0;");
        // z 1, k 0: draw 11401: party 11401 mod 3 = 1, village 1425 mod 7 = 4
        Due.due("one of seven, found", s.shire(1, 1, 0), 5);
        Due.due("one of seven, days", s.shire(1, 1, 1), 6);
        NotAnOx y = Due.laid("v0,10;v1,21;p1;");
        Due.due("no way, not in the book", y.shire(0, 1, 0), 0);
        Due.due("no way, no days", y.shire(0, 1, 1), 0);
        NotAnOx w = Due.laid("v1,21;p0;");
        w.ask(0, 0);
        // z 0: draw 0, and 0 mod 3 is 0; z 1: draw 11401, 178 mod 3 is 1; z 4: draw 21867, 341 mod 3 is 2
        Due.due("checked by a draw", w.shire(0, 1, 0), 21);
        Due.due("struck out by a draw", w.shire(1, 1, 0), 0);
        Due.due("left by a draw", w.shire(4, 1, 0), 10);
        w.check(0);
        Due.due("checked already", w.shire(0, 1, 0), 21);
    }

    private static void shireRefused() {
        NotAnOx x = new NotAnOx();
        Due.due("shire(-1, 1, 0)", x.shire(-1, 1, 0), BAD);
        Due.due("shire(10000, 1, 0)", x.shire(10000, 1, 0), BAD);
        Due.due("shire(0, 0, 0)", x.shire(0, 0, 0), BAD);
        Due.due("shire(0, 41, 0)", x.shire(0, 41, 0), BAD);
        Due.due("shire(0, 1, -1)", x.shire(0, 1, -1), BAD);
        Due.due("shire(0, 1, 2)", x.shire(0, 1, 2), BAD);
        Due.due("the highest is none of these", x.shire(9999, 40, 1) > 0 ? 1 : 0, 1);
    }

    private static void keep() {
        NotAnOx x = Due.laid("v4,10;v1,20;w0,1,3;p0;p1;");
        Due.due("none kept", x.back(), NO);
        x.ask(0, 1);
        Due.due("keep()", x.keep(), 1);
        x.ask(1, 0);
        x.check(1);
        Due.due("keep() again", x.keep(), 2);
        Due.due("a third", x.keep(), FULL);
        Due.due("count(9)", x.count(9), 2);
        x.strike(0);
        x.strike(1);
        Due.due("back()", x.back(), 1);
        Due.due("in the book", x.count(2), 2);
        Due.due("checked", x.village(1, 3), 1);
        Due.due("written", x.village(1, 2), 30);
        Due.due("back() again", x.back(), 0);
        Due.due("in the book then", x.count(2), 1);
        Due.due("moved back", x.village(0, 1), 10);
        Due.due("not there", x.village(1, 1), 20);
        Due.due("written as sworn", x.village(1, 2), 10);
        Due.due("party 0", x.party(0, 0), 1);
        Due.due("party 0, days", x.party(0, 1), 4);
        Due.due("party 1", x.party(1, 1), 0);
        Due.due("no more", x.back(), NO);
    }

    private static void keepAndUndo() {
        NotAnOx x = Due.laid("v0,10;v1,20;w0,1,3;p0;");
        x.ask(0, 1);
        x.keep();
        Due.due("keep() leaves what can be undone", x.undo(), 0);
        Due.due("undone", x.count(2), 0);
        x.ask(0, 0);
        Due.due("kept all the same", x.back(), 0);
        Due.due("as kept", x.village(1, 2), 10);
        Due.due("not what came later", x.village(0, 2), Due.NONE);
        Due.due("nothing is undone then", x.undo(), NO);
        x.ask(0, 0);
        Due.due("back() refused", x.back(), NO);
        Due.due("refused: can be undone", x.count(8), 1);
        x.keep();
        x.wipe();
        x.write('q');
        x.back();
        Due.due("the text stays", x.count(10), 1);
    }

    private static void count() {
        NotAnOx x = Due.laid("v1,10;v1,20;v0,5;w0,1,3;p0;p1;p2;");
        x.ask(0, 1);
        x.ask(1, 0);
        x.ask(2, 2);
        x.check(1);
        x.see(0, 1);
        x.see(0, 2);
        x.keep();
        int[] counts = {3, 3, 3, 1, 20 + 5 + 5, 35, 4, 2, 4, 1, 33};
        for (int what = 0; what < counts.length; what++) {
            Due.due("count(" + what + ")", x.count(what), counts[what]);
        }
        Due.due("count(-1)", x.count(-1), BAD);
        Due.due("count(11)", x.count(11), BAD);
    }
}
