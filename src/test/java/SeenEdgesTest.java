/** Promises 17 to 21, the edges that the document's sentences name: what was seen, copies, sums. */
public final class SeenEdgesTest {
    private static final int BAD = Due.BAD, NO = Due.NO, FULL = Due.FULL;
    private static final int[] WILD = {Integer.MIN_VALUE, -61, -2, -1, 61, 62, 100, 256, 65536, Integer.MAX_VALUE};

    public static void main(String[] args) {
        seenOfSuchAsThereAre();
        seenSixAtMost();
        seenStays();
        forgetAndSeeAgain();
        kindsOfSuchAsThereAre();
        kindsOfNothingSeen();
        kindsOfEachNumber();
        kindsOfAllThatIsSeen();
        kindsNow();
        kindsOfMoreThanSixty();
        copiesOfNeighboursInTheBook();
        copiesOfSeven();
        agreeOfUnlikeOnesInTheBook();
        agreeOfSums();
        Due.end();
    }

    private static void seenOfSuchAsThereAre() {
        NotAnOx x = Due.laid("v0,10;v1,20;w0,1,7;p0;");
        for (int bad : WILD) {
            Due.due("see(0, " + bad + ")", x.see(0, bad), BAD);
            Due.due("see(" + bad + ", 0)", x.see(bad, 0), BAD);
            Due.due("see(" + bad + ", " + bad + ")", x.see(bad, bad), BAD);
        }
        Due.due("see(2, 0) of two", x.see(2, 0), BAD);
        Due.due("see(7, 0) of two", x.see(7, 0), BAD);
        Due.due("BAD is not SEEN", x.count(7), 0);
        Due.due("n = 0", x.see(1, 0), 1);
        Due.due("n = 60", x.see(1, 60), 2);
        NotAnOx seven = Due.laid("v0,1;v0,1;v0,1;v0,1;v0,1;v0,1;v0,1;p0;");
        Due.due("the seventh VILLAGE", seven.see(6, 5), 1);
        Due.due("an eighth VILLAGE", seven.see(7, 5), BAD);
    }

    private static void seenSixAtMost() {
        NotAnOx x = Due.laid("v0,10;v1,20;w0,1,7;p0;");
        for (int i = 1; i <= 6; i++) {
            Due.due("SEEN", x.see(i % 2, 10), i);
        }
        Due.due("a seventh", x.see(0, 10), FULL);
        Due.due("a seventh of another", x.see(1, 0), FULL);
        Due.due("a seventh, but BAD first", x.see(2, 0), BAD);
        Due.due("a seventh, but BAD first, n", x.see(0, 61), BAD);
        Due.due("six all the same", x.count(7), 6);
        // had the seventh been taken, 1 would have sworn to 0, too
        Due.due("the seventh is not SEEN", x.kinds(1), 2);
        Due.due("six are forgotten", x.forget(), 6);
        Due.due("room again", x.see(1, 0), 1);
    }

    private static void seenStays() {
        NotAnOx x = Due.laid("v0,10;v1,20;w0,1,7;p0;");
        x.see(1, 10);
        x.ask(0, 0);
        x.check(0);
        x.strike(0);
        x.undo();
        x.keep();
        x.see(1, 20);
        x.back();
        x.wipe();
        Due.due("SEEN stays by all of these", x.count(7), 2);
        x.lay();
        Due.due("SEEN stays by lay() that is NO", x.count(7), 2);
        Due.writeInto(x, "v0,1;p0;");
        x.lay();
        Due.due("not by lay()", x.count(7), 0);
        Due.due("nor of one of the same number", x.kinds(0), 31);
    }

    private static void forgetAndSeeAgain() {
        NotAnOx x = Due.laid("v0,10;v1,20;w0,1,7;p0;");
        Due.due("none were", x.forget(), 0);
        Due.due("none were again", x.forget(), 0);
        for (int many = 1; many <= 6; many++) {
            for (int i = 0; i < many; i++) {
                x.see(0, 1);
            }
            Due.due("kinds ahead of forget()", x.kinds(0), 0);
            Due.due("so many were", x.forget(), many);
            Due.due("count(7) then", x.count(7), 0);
            Due.due("kinds then", x.kinds(0), 31);
        }
    }

    private static void kindsOfSuchAsThereAre() {
        NotAnOx x = Due.laid("v0,10;v1,20;w0,1,7;p0;");
        int[] wild = {Integer.MIN_VALUE, -2, -1, 2, 3, 7, 32, Integer.MAX_VALUE};
        for (int v : wild) {
            Due.due("kinds(" + v + ")", x.kinds(v), BAD);
        }
        x.ask(0, 0);
        x.see(0, 10);
        Due.due("in the BOOK, though SEEN", x.kinds(0), NO);
        x.check(0);
        Due.due("CHECKED", x.kinds(0), NO);
        x.strike(0);
        Due.due("STRUCK OUT", x.kinds(0), 1 + 8 + 16);
    }

    private static void kindsOfNothingSeen() {
        NotAnOx x = Due.laid("v0,10;v1,20;v2,0;v3,1;v4,60;w0,1,7;p0;");
        for (int v = 0; v < 5; v++) {
            Due.due("nothing SEEN of " + v, x.kinds(v), 31);
        }
        x.see(3, 60);
        Due.due("SEEN of 3", x.kinds(3), 0);
        for (int v = 0; v < 5; v++) {
            Due.due("nothing SEEN of " + v + " itself", x.kinds(v), v == 3 ? 0 : 31);
        }
    }

    /** Without NEIGHBOURS: all of them (HONEST, COPIER, MOVER), half (HIDER), 0 (WASTE). */
    private static void kindsOfEachNumber() {
        int[] herds = {0, 1, 2, 3, 59, 60};
        for (int oxen : herds) {
            for (int n = 0; n <= 60; n++) {
                NotAnOx x = Due.laid("v1," + oxen + ";p0;");
                x.see(0, n);
                int all = n == oxen ? 1 + 8 + 16 : 0;
                int half = n == oxen / 2 ? 2 : 0;
                int none = n == 0 ? 4 : 0;
                Due.due(oxen + " OXEN, " + n + " SEEN", x.kinds(0), all + half + none);
            }
        }
    }

    private static void kindsOfAllThatIsSeen() {
        NotAnOx x = Due.laid("v1,0;v1,1;p0;");
        x.see(1, 0);
        Due.due("0 of 1", x.kinds(1), 2 + 4);
        x.see(1, 0);
        Due.due("0 of 1, twice", x.kinds(1), 2 + 4);
        x.see(0, 0);
        Due.due("0 of 0", x.kinds(0), 31);
        x.see(1, 1);
        Due.due("0 and 1 of 1", x.kinds(1), 0);
        Due.due("0 of 0 stays", x.kinds(0), 31);
        x.see(0, 0);
        x.see(0, 1);
        Due.due("the sixth counts", x.kinds(0), 0);
    }

    /** "as it stands when that is asked": what is SEEN ahead of an ASKING is held against what stands behind it. */
    private static void kindsNow() {
        NotAnOx x = Due.laid("v0,8;v2,8;v4,5;w0,1,1;w1,2,1;p0;");
        x.see(1, 8);
        Due.due("8 alone", x.kinds(1), 1 + 8 + 16);
        x.ask(0, 0);
        Due.due("8 beside an HONEST one of 8", x.kinds(1), 1 + 2 + 4 + 8);
        x.ask(0, 2);
        x.strike(0);
        Due.due("8 beside a MOVER of 5", x.kinds(1), 1);
        x.forget();
        x.see(1, 5);
        Due.due("5 beside a MOVER of 5", x.kinds(1), 8);
        x.undo();
        Due.due("5 beside both", x.kinds(1), 0);
        x.strike(0);
        x.strike(2);
        Due.due("5 alone again", x.kinds(1), 0);
        // its NEIGHBOUR is HONEST as told, whatever kind 1 itself is
        NotAnOx y = Due.laid("v1,8;v1,6;w0,1,1;p0;");
        y.ask(0, 0);
        y.see(1, 3);
        Due.due("beside a HIDER", y.kinds(1), 2);
        y.forget();
        y.see(1, 4);
        Due.due("what a COPIER would copy", y.kinds(1), 8);
        y.check(0);
        Due.due("CHECKED it is 8", y.kinds(1), 0);
        Due.due("nothing is moved by it", y.village(0, 1), 8);
        Due.due("nor by kinds of what could move", y.village(1, 1), 6);
    }

    private static void kindsOfMoreThanSixty() {
        NotAnOx x = Due.laid("v1,60;v4,59;w0,1,1;p0;");
        x.ask(0, 0);
        x.ask(0, 1);
        x.strike(0);
        x.strike(1);
        x.see(0, 59);
        Due.due("half of 119, cut", x.kinds(0), 2);
        x.forget();
        Due.due("more than 60 is not SEEN", x.see(0, 119), BAD);
        x.see(0, 60);
        Due.due("none by 60", x.kinds(0), 0);
    }

    private static void copiesOfNeighboursInTheBook() {
        NotAnOx x = Due.laid("v0,5;v0,5;v0,5;v0,0;w0,1,1;w1,3,1;p0;p2;");
        Due.due("an empty BOOK", x.copies(), 0);
        x.ask(0, 0);
        Due.due("one in the BOOK", x.copies(), 0);
        x.ask(1, 2);
        Due.due("the same, but no NEIGHBOURS", x.copies(), 0);
        x.ask(0, 1);
        Due.due("the same of NEIGHBOURS", x.copies(), 3);
        x.ask(0, 3);
        Due.due("0 is not 5", x.copies(), 3);
        x.strike(0);
        Due.due("STRUCK OUT", x.copies(), 0);
        x.strike(1);
        Due.due("0 beside one that is not in the BOOK", x.copies(), 0);
        NotAnOx y = Due.laid("v2,5;v0,0;v3,7;w0,1,1;w1,2,1;p0;");
        y.ask(0, 0);
        y.ask(0, 1);
        Due.due("0 and 0 are the same", y.copies(), 3);
        y.ask(0, 2);
        Due.due("three of 0", y.copies(), 7);
        y.check(0);
        Due.due("the first CHECKED", y.copies(), 6);
        y.check(2);
        Due.due("the last CHECKED", y.copies(), 0);
    }

    private static void copiesOfSeven() {
        NotAnOx x = Due.laid("v0,5;v3,6;v3,7;v3,8;v3,9;v3,1;v3,2;w0,6,1;w6,1,1;w1,5,1;w5,2,1;w2,4,1;w4,3,1;p0;");
        int[] order = {0, 6, 1, 5, 2, 4, 3};
        int bits = 0;
        for (int v : order) {
            x.ask(0, v);
            bits |= 1 << v;
            Due.due("a row of COPIERS to " + v, x.copies(), v == 0 ? 0 : bits);
        }
        x.check(5);
        Due.due("the middle one CHECKED", x.copies(), 127 - 32);
        x.check(1);
        Due.due("its NEIGHBOUR, too", x.copies(), 127 - 32 - 2);
        x.strike(0);
        Due.due("the first one STRUCK OUT", x.copies(), 4 + 8 + 16);
    }

    private static void agreeOfUnlikeOnesInTheBook() {
        NotAnOx x = Due.laid("v0,5;v0,6;v0,7;w0,1,1;p0;p2;");
        int[] wild = {Integer.MIN_VALUE, -2, -1, 3, 7, 32, Integer.MAX_VALUE};
        for (int v : wild) {
            Due.due("agree(" + v + ", 0)", x.agree(v, 0), BAD);
            Due.due("agree(0, " + v + ")", x.agree(0, v), BAD);
            Due.due("agree(" + v + ", " + v + ")", x.agree(v, v), BAD);
        }
        Due.due("alike and not in the BOOK", x.agree(1, 1), BAD);
        Due.due("neither is in the BOOK", x.agree(0, 1), NO);
        x.ask(0, 0);
        Due.due("one is in the BOOK", x.agree(0, 1), NO);
        Due.due("one is in the BOOK, turned", x.agree(1, 0), NO);
        Due.due("alike and in the BOOK", x.agree(0, 0), BAD);
        x.ask(1, 2);
        Due.due("both, though no NEIGHBOURS", x.agree(0, 2), 1);
        Due.due("both, turned", x.agree(2, 0), 1);
        x.strike(2);
        Due.due("one is STRUCK OUT", x.agree(0, 2), NO);
    }

    private static void agreeOfSums() {
        NotAnOx x = Due.laid("v2,0;v1,1;v3,3;v1,7;w0,1,1;w1,2,1;w2,3,1;p0;");
        for (int v = 0; v < 4; v++) {
            x.ask(0, v);
        }
        // written 0, 0, 0, 3; OXEN 0, 1, 3, 7
        Due.due("1 fewer", x.agree(0, 1), 0);
        Due.due("4 fewer", x.agree(1, 2), 0);
        x.check(1);
        Due.due("CHECKED", x.agree(0, 1), 1);
        x.check(2);
        Due.due("both CHECKED", x.agree(1, 2), 1);
        Due.due("the other is not", x.agree(2, 3), 0);
        // what is hidden by one is moved to the other: 8 of 8 and 9 moved, 0 of 9
        NotAnOx y = Due.laid("v0,8;v4,9;v3,8;w0,1,1;w1,2,1;w0,2,1;p0;");
        y.ask(0, 0);
        y.ask(0, 1);
        Due.due("moved: 8 written, 17 there", y.agree(0, 1), 0);
        y.ask(0, 2);
        Due.due("a true copy", y.agree(1, 2), 1);
        Due.due("a true copy beside it", y.agree(0, 2), 0);
        y.check(0);
        Due.due("17 written, 17 there", y.agree(0, 2), 1);
    }
}
