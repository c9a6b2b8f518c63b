import java.math.BigInteger;

/** Promises 22 to 26, the edges that the document's sentences name: chance, draws, books kept, counts. */
public final class ChanceEdgesTest {
    private static final int BAD = Due.BAD, NO = Due.NO, FULL = Due.FULL, NONE = Due.NONE;
    private static final String STAR = "w0,1,1;w0,2,1;w0,3,1;w0,4,1;w0,5,1;w0,6,1;";

    public static void main(String[] args) {
        honestOfSuchNumbers();
        honestOfNoneAndAllOfTen();
        honestOfNoRest();
        honestByOneMore();
        honestOfFiveHundred();
        honestInLowestTerms();
        honestAskedByNumber();
        honestElseAsTold();
        shireOfSuchNumbers();
        shireOfTheHighestDraw();
        shireOfOneAndFortySteps();
        shireAsksChecksStrikes();
        shireOfNoWay();
        shireFromNowOn();
        keptTwoAtMost();
        keptIsAllAsItStands();
        keptButSeenAndText();
        backLeavesNothingToUndo();
        countsOfEach();
        countsAtTheirMost();
        Due.end();
    }

    private static void chance(String what, NotAnOx x, int n, int of, int above, int below) {
        Due.due(what + ", honest(" + n + ", " + of + ", 0)", x.honest(n, of, 0), above);
        Due.due(what + ", honest(" + n + ", " + of + ", 1)", x.honest(n, of, 1), below);
    }

    private static void honestOfSuchNumbers() {
        NotAnOx x = Due.laid("v0,10;v1,20;w0,1,7;p0;");
        int[] wild = {Integer.MIN_VALUE, -501, -2, -1, 501, 502, 1000, 65536, Integer.MAX_VALUE};
        for (int bad : wild) {
            Due.due("honest(" + bad + ", 0, 0)", x.honest(bad, 0, 0), BAD);
            Due.due("honest(" + bad + ", 10, 1)", x.honest(bad, 10, 1), BAD);
            Due.due("honest(0, " + bad + ", 0)", x.honest(0, bad, 0), BAD);
            Due.due("honest(0, 0, " + bad + ")", x.honest(0, 0, bad), BAD);
        }
        Due.due("honest(0, 11, 0)", x.honest(0, 11, 0), BAD);
        Due.due("honest(0, 0, 2)", x.honest(0, 0, 2), BAD);
        for (int of = 0; of <= 10; of++) {
            chance("0 or more", x, 0, of, 1, 1);
            chance("500 or more of 30", x, 500, of, 0, 1);
        }
    }

    private static void honestOfNoneAndAllOfTen() {
        NotAnOx x = Due.laid("v2,10;v1,21;v4,30;p0;");
        // as told 0, 10, 30; all HONEST 61
        chance("none of ten", x, 40, 0, 1, 1);
        chance("none of ten", x, 41, 0, 0, 1);
        chance("ten of ten", x, 61, 10, 1, 1);
        chance("ten of ten", x, 62, 10, 0, 1);
        chance("one of ten", x, 61, 1, 1, 100);
        chance("nine of ten", x, 61, 9, 81, 100);
        chance("five of ten", x, 61, 5, 1, 4);
        chance("five of ten", x, 41, 5, 3, 4);
    }

    private static void honestOfNoRest() {
        NotAnOx x = Due.laid("v2,10;v1,20;w0,1,1;p0;");
        x.ask(0, 0);
        x.ask(0, 1);
        for (int of = 0; of <= 10; of++) {
            chance("no REST", x, 10, of, 1, 1);
            chance("no REST", x, 11, of, 0, 1);
        }
        x.check(0);
        chance("no REST, CHECKED", x, 20, 5, 1, 1);
        chance("no REST, CHECKED", x, 21, 5, 0, 1);
        x.strike(1);
        chance("one of REST", x, 30, 3, 3, 10);
        chance("one of REST", x, 20, 3, 1, 1);
    }

    private static void honestByOneMore() {
        NotAnOx x = Due.laid("v2,60;p0;");
        for (int n = 0; n <= 62; n++) {
            chance("60 or 0", x, n, 4, n == 0 ? 1 : n <= 60 ? 2 : 0, n == 0 || n > 60 ? 1 : 5);
        }
    }

    /** FOUND can be more than all OXEN by copies. */
    private static void honestOfFiveHundred() {
        NotAnOx x = Due.laid("v0,60;v4,60;v4,5;v3,0;v3,0;v3,0;v2,1;" + STAR + "p0;");
        x.ask(0, 0);
        x.ask(0, 1);
        x.ask(0, 2);
        x.check(0);
        // 125 is written of 0, and of each COPIER; 6 has 1
        chance("500 as told, and 1", x, 500, 0, 1, 1);
        chance("500 by three of ten", x, 500, 3, 343, 1000);
        NotAnOx y = Due.laid("v0,60;v4,60;v4,4;v3,0;v3,0;v3,0;v0,3;w0,1,1;w0,2,1;w0,3,1;w0,4,1;w0,5,1;p0;p6;");
        y.ask(0, 0);
        y.ask(0, 1);
        y.ask(0, 2);
        y.check(0);
        y.ask(0, 3);
        y.ask(0, 4);
        y.ask(0, 5);
        // four of 124, and 3
        chance("499 are FOUND", y, 499, 3, 1, 1);
        chance("499 are FOUND", y, 500, 3, 0, 1);
        NotAnOx z = Due.laid("v0,60;v4,60;v4,60;v4,60;v3,0;v3,0;v3,0;" + STAR + "p0;");
        for (int v = 0; v < 4; v++) {
            z.ask(0, v);
        }
        z.check(0);
        // 240 and three copies of it
        chance("960 as told", z, 500, 0, 1, 1);
        chance("two copies at least", z, 500, 5, 1, 2);
        Due.due("most(0) is 960", z.most(0), 960);
    }

    private static void honestInLowestTerms() {
        NotAnOx x = Due.laid("v2,1;v2,1;v2,1;v2,1;v2,1;v2,1;v2,1;p0;");
        chance("seven of seven", x, 7, 1, 1, 10000000);
        chance("seven of seven", x, 7, 2, 1, 78125);
        chance("seven of seven", x, 7, 3, 2187, 10000000);
        chance("seven of seven", x, 7, 5, 1, 128);
        chance("seven of seven", x, 7, 10, 1, 1);
        chance("seven of seven", x, 7, 0, 0, 1);
        chance("one of seven at least", x, 1, 1, 5217031, 10000000);
        chance("one of seven at least", x, 1, 5, 127, 128);
        chance("four of seven at least", x, 4, 5, 1, 2);
        chance("eight of seven", x, 8, 5, 0, 1);
        chance("none of seven at least", x, 0, 7, 1, 1);
    }

    private static void honestAskedByNumber() {
        // 1 fears 0 ahead of it by number, not 2 behind it
        NotAnOx x = Due.laid("v2,1;v2,10;v0,40;w0,1,1;w1,2,1;p2;");
        // by 0 1: -- 40, -H 50, H- 51, HH 51
        chance("by number", x, 41, 2, 9, 25);
        chance("by number", x, 51, 2, 1, 5);
        x.ask(0, 2);
        // the HONEST one is in the BOOK now: -- 50, -H 50, H- 51, HH 51
        chance("the last is asked first", x, 50, 2, 1, 1);
        chance("the last is asked first", x, 51, 2, 1, 5);
    }

    private static void honestElseAsTold() {
        // told HONEST it is so by any x; a COPIER copies, a MOVER moves, if it is as told
        NotAnOx x = Due.laid("v0,5;v3,9;v4,7;w0,1,1;w0,2,1;p0;");
        // by 1 2: -- 10, -H 17, H- 14, HH 21
        chance("as told", x, 10, 1, 1, 1);
        chance("as told", x, 11, 1, 19, 100);
        chance("as told", x, 15, 1, 1, 10);
        chance("as told", x, 18, 1, 1, 100);
        Due.due("nothing is moved by chance", x.village(0, 1), 5);
        Due.due("nothing is HONEST by it then", x.village(1, 0), 3);
        // one in the BOOK is not of REST: it does not turn HONEST
        NotAnOx y = Due.laid("v1,10;v2,20;w0,1,1;p0;");
        y.ask(0, 0);
        chance("in the BOOK as it swore", y, 5, 10, 1, 1);
        chance("in the BOOK as it swore", y, 25, 10, 1, 1);
        chance("in the BOOK as it swore", y, 26, 10, 0, 1);
        chance("not feared, it is a HIDER", y, 6, 0, 0, 1);
    }

    private static void shireOfSuchNumbers() {
        NotAnOx x = new NotAnOx();
        int[] wild = {Integer.MIN_VALUE, -10000, -2, -1, 10000, 10001, 65536, Integer.MAX_VALUE};
        for (int bad : wild) {
            Due.due("shire(" + bad + ", 1, 0)", x.shire(bad, 1, 0), BAD);
            Due.due("shire(0, " + bad + ", 0)", x.shire(0, bad, 0), BAD);
            Due.due("shire(0, 1, " + bad + ")", x.shire(0, 1, bad), BAD);
        }
        Due.due("shire(0, 0, 0)", x.shire(0, 0, 0), BAD);
        Due.due("shire(0, 41, 1)", x.shire(0, 41, 1), BAD);
        Due.due("shire(9999, 1, 2)", x.shire(9999, 1, 2), BAD);
        Due.due("z 0, one step: PARTY 0 asks 0", x.shire(0, 1, 0), 12);
        Due.due("z 0, one step: a day", x.shire(0, 1, 1), 1);
    }

    /** What is drawn, by another way: whole numbers of any size. */
    private static int draw(int z, int k) {
        BigInteger x = BigInteger.valueOf(7919).multiply(BigInteger.valueOf(z))
            .add(BigInteger.valueOf(6151L * k + 1));
        return x.multiply(x).mod(BigInteger.valueOf(65521)).intValue() / 2;
    }

    /** x times x is above what an int holds for all but the smallest x. */
    private static void shireOfTheHighestDraw() {
        int[] high = {0, 1, 5, 6, 7, 8, 270, 271, 272, 5000, 9998, 9999};
        for (int z : high) {
            // each VILLAGE has OXEN of its own, so FOUND tells which was asked; each PARTY days of its own
            NotAnOx x = Due.laid("v0,1;v0,2;v0,3;v0,4;v0,5;v0,6;v0,7;w0,1,1;w1,2,3;w2,3,9;w3,4,20;w4,5,1;w5,6,1;p0;p3;p6;");
            int v = draw(z, 0) / 8 % 7;
            int p = draw(z, 0) % 3;
            Due.due("VILLAGE by z " + z, x.shire(z, 1, 0), v + 1);
            Due.due("PARTY by z " + z, x.shire(z, 1, 1), x.far(x.party(p, 0), v) + 1);
        }
        Due.due("the draw of 0", draw(0, 0), 0);
        Due.due("the draw of 1", draw(1, 0), 11401);
    }

    private static void shireOfOneAndFortySteps() {
        // one VILLAGE alone: asked when it can be, else by the third of each draw
        for (int z = 0; z <= 9999; z += 303) {
            NotAnOx x = Due.laid("v1,9;p0;");
            int written = NONE;
            int days = 0;
            for (int k = 0; k < 40; k++) {
                int turn = draw(z, k) / 64 % 3;
                if (written == NONE) {
                    written = 4;
                    days++;
                } else if (turn == 0) {
                    written = 9;
                } else if (turn == 1) {
                    written = NONE;
                }
                Due.due("FOUND by z " + z + " of steps " + (k + 1), x.shire(z, k + 1, 0), written == NONE ? 0 : written);
                Due.due("days by z " + z + " of steps " + (k + 1), x.shire(z, k + 1, 1), days);
            }
        }
    }

    private static void shireAsksChecksStrikes() {
        // z 0: draw 0, 0 modulo 3 is 0; z 1: 178 modulo 3 is 1; z 4: 341 modulo 3 is 2
        NotAnOx x = Due.laid("v1,21;p0;");
        x.ask(0, 0);
        Due.due("CHECKED", x.shire(0, 1, 0), 21);
        Due.due("STRUCK OUT", x.shire(1, 1, 0), 0);
        Due.due("neither", x.shire(4, 1, 0), 10);
        for (int z = 0; z <= 4; z++) {
            Due.due("days stay", x.shire(z, 1, 1), 1);
        }
        x.check(0);
        Due.due("can not be CHECKED again", x.shire(0, 1, 0), 21);
        Due.due("STRUCK OUT, though CHECKED", x.shire(1, 1, 0), 0);
        x.strike(0);
        Due.due("asked ahead of CHECKED", x.shire(0, 1, 0), 10);
        Due.due("asked ahead of STRUCK OUT", x.shire(1, 1, 0), 10);
        Due.due("asked: a day more", x.shire(1, 1, 1), 2);
    }

    private static void shireOfNoWay() {
        NotAnOx x = Due.laid("v0,5;v0,6;p1;");
        // draw 0: VILLAGE 0, to which there is no way, and which is not in the BOOK
        Due.due("it can not ask", x.shire(0, 1, 0), 0);
        Due.due("nor has it days", x.shire(0, 1, 1), 0);
        NotAnOx y = Due.laid("v1,5;v0,6;p1;p0;");
        y.ask(1, 0);
        Due.due("no way, in the BOOK: CHECKED", y.shire(0, 1, 0), 5);
        Due.due("what stands has not changed", y.village(0, 2), 2);
    }

    private static void shireFromNowOn() {
        NotAnOx x = new NotAnOx();
        x.ask(0, 1);
        x.ask(1, 4);
        x.check(1);
        x.see(2, 3);
        x.keep();
        x.write('v');
        String stood = Look.at(x);
        for (int z = 0; z < 20; z++) {
            int found = x.shire(z * 500, 40, 0);
            Due.due("the same again", x.shire(z * 500, 40, 0), found);
            Due.due("days are those had, at least", x.shire(z * 500, 1, 1) >= x.count(6) ? 1 : 0, 1);
        }
        Due.same("nothing changes by it", Look.at(x), stood);
        Due.due("nor what can be UNDONE", x.undo(), 2);
        Due.due("by it", x.village(1, 3), 0);
        Due.due("nor what is KEPT", x.back(), 0);
        Due.due("as it was", x.village(1, 3), 1);
    }

    private static void keptTwoAtMost() {
        NotAnOx x = Due.laid("v0,1;v0,2;w0,1,1;p0;");
        Due.due("nothing KEPT", x.back(), NO);
        Due.due("one", x.keep(), 1);
        Due.due("two", x.keep(), 2);
        Due.due("a third", x.keep(), FULL);
        Due.due("two all the same", x.count(9), 2);
        Due.due("one is left", x.back(), 1);
        Due.due("room again", x.keep(), 2);
        Due.due("full again", x.keep(), FULL);
        Due.due("one is left again", x.back(), 1);
        Due.due("none is left", x.back(), 0);
        Due.due("no more", x.back(), NO);
        Due.due("one anew", x.keep(), 1);
        // a third that is FULL does not take the place of the second
        NotAnOx y = Due.laid("v0,1;v0,2;v0,3;w0,1,1;w1,2,1;p0;");
        y.ask(0, 0);
        y.keep();
        y.ask(0, 1);
        y.keep();
        y.ask(0, 2);
        y.keep();
        Due.due("as KEPT last", y.back(), 1);
        Due.due("as KEPT last, in the BOOK", y.count(2), 2);
        Due.due("as KEPT first", y.back(), 0);
        Due.due("as KEPT first, in the BOOK", y.count(2), 1);
    }

    private static void keptIsAllAsItStands() {
        NotAnOx x = Due.laid("v2,5;v4,6;v4,9;w0,1,4;w1,2,1;p0;p1;");
        x.ask(0, 0);
        x.ask(1, 1);
        x.check(0);
        x.keep();
        NotAnOx twin = Due.laid("v2,5;v4,6;v4,9;w0,1,4;w1,2,1;p0;p1;");
        twin.ask(0, 0);
        twin.ask(1, 1);
        twin.check(0);
        twin.keep();
        twin.back();
        x.strike(1);
        x.ask(1, 2);
        x.ask(0, 1);
        x.strike(0);
        x.undo();
        x.check(2);
        Due.due("back()", x.back(), 0);
        Due.same("as it stood", Look.at(x), Look.at(twin));
        Due.due("OXEN are back where they were", x.village(0, 1), 11);
        Due.due("as written", x.village(0, 2), 11);
        Due.due("CHECKED", x.check(0), NO);
        Due.due("days", x.party(1, 1), 1);
        Due.due("a KEPT one is not changed by what is done behind keep()", x.village(2, 2), NONE);
    }

    private static void keptButSeenAndText() {
        NotAnOx x = Due.laid("v0,5;v1,6;w0,1,1;p0;");
        x.see(1, 3);
        x.keep();
        x.see(1, 6);
        x.wipe();
        x.write('v');
        x.back();
        Due.due("SEEN as it is now", x.count(7), 2);
        Due.due("SEEN as it is now, kinds", x.kinds(1), 0);
        Due.due("THE TEXT as it is now", x.count(10), 1);
        x.keep();
        x.forget();
        x.wipe();
        x.back();
        Due.due("nothing SEEN stays so", x.count(7), 0);
        Due.due("an empty TEXT stays so", x.count(10), 0);
    }

    private static void backLeavesNothingToUndo() {
        NotAnOx x = Due.laid("v0,5;v1,6;w0,1,1;p0;");
        x.ask(0, 0);
        Due.due("keep()", x.keep(), 1);
        Due.due("keep() leaves it", x.count(8), 1);
        x.ask(0, 1);
        x.check(1);
        Due.due("ahead of back()", x.count(8), 3);
        x.back();
        Due.due("behind back()", x.count(8), 0);
        Due.due("undo() behind back()", x.undo(), NO);
        Due.due("as KEPT", x.count(2), 1);
        x.ask(0, 1);
        Due.due("what is done then can be", x.undo(), 0);
        Due.due("to what was KEPT, no farther", x.count(2), 1);
        x.keep();
        for (int i = 0; i < 10; i++) {
            x.ask(0, 1);
            x.strike(1);
        }
        Due.due("eight", x.count(8), 8);
        x.back();
        Due.due("none of eight", x.undo(), NO);
        x.ask(0, 1);
        Due.due("NO leaves it", x.back(), NO);
        Due.due("NO leaves it to be UNDONE", x.undo(), 0);
        // UNDONE does not touch what is KEPT
        x.strike(0);
        x.keep();
        x.undo();
        Due.due("UNDONE: 0 is in the BOOK", x.village(0, 2), 5);
        x.back();
        Due.due("KEPT: it is not", x.village(0, 2), NONE);
    }

    private static void countsOfEach() {
        NotAnOx x = new NotAnOx();
        int[] wild = {Integer.MIN_VALUE, -11, -2, -1, 11, 12, 32, 65536, Integer.MAX_VALUE};
        for (int what : wild) {
            Due.due("count(" + what + ")", x.count(what), BAD);
        }
        NotAnOx y = Due.laid("v1,9;v4,8;v0,7;w0,1,1;w1,2,5;p0;p2;");
        int[][] due = {
            {3, 2, 0, 0, 0, 24, 0, 0, 0, 0, 35},
            {3, 2, 1, 0, 4, 24, 1, 0, 1, 0, 35},
            {3, 2, 2, 0, 4, 24, 6, 0, 2, 0, 35},
            {3, 2, 2, 1, 17, 24, 6, 0, 3, 0, 35},
            {3, 2, 1, 0, 0, 24, 6, 0, 4, 0, 35},
        };
        for (int step = 0; step < due.length; step++) {
            if (step == 1) {
                y.ask(0, 0);
            } else if (step == 2) {
                y.ask(1, 1);
            } else if (step == 3) {
                y.check(0);
            } else if (step == 4) {
                y.strike(0);
            }
            for (int what = 0; what <= 10; what++) {
                Due.due("step " + step + ", count(" + what + ")", y.count(what), due[step][what]);
            }
        }
    }

    private static void countsAtTheirMost() {
        NotAnOx x = Due.laid("v0,60;v0,60;v0,60;v0,60;v0,60;v0,60;v0,60;" + STAR + "p0;p0;p0;");
        for (int v = 0; v < 7; v++) {
            x.ask(v % 3, v);
        }
        for (int v = 0; v < 7; v++) {
            x.check(v);
        }
        for (int i = 0; i < 8; i++) {
            x.see(6, 60);
            x.keep();
        }
        for (int i = x.count(10); i < 205; i++) {
            x.write(';');
        }
        // PARTY 0 asks 0, 3, 6: 1 + 2 + 3; PARTY 1 asks 1, 4: 2 + 3
        int[] most = {7, 3, 7, 7, 420, 420, 6, 6, 8, 2, 200};
        for (int what = 0; what < most.length; what++) {
            Due.due("at the most, count(" + what + ")", x.count(what), most[what]);
        }
    }
}
