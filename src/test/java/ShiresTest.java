/** Promises 1 to 8: a new object, write, wipe, fault, lay, village, party, far. */
public final class ShiresTest {
    private static final int BAD = Due.BAD, NO = Due.NO, FULL = Due.FULL, NONE = Due.NONE;

    public static void main(String[] args) {
        newObject();
        write();
        wipe();
        faultOfForm();
        faultOfNumbers();
        faultOfLimits();
        lay();
        layClears();
        refusedLayChangesNothing();
        village();
        party();
        far();
        Due.end();
    }

    private static void newObject() {
        NotAnOx x = new NotAnOx();
        int[] kinds = {0, 1, 2, 3, 4, 1};
        int[] oxen = {12, 20, 9, 15, 18, 7};
        int[] near = {34, 21, 10, 20, 42, 17};
        for (int v = 0; v < 6; v++) {
            Due.due("new village(" + v + ", 0)", x.village(v, 0), kinds[v]);
            Due.due("new village(" + v + ", 1)", x.village(v, 1), oxen[v]);
            Due.due("new village(" + v + ", 2)", x.village(v, 2), NONE);
            Due.due("new village(" + v + ", 3)", x.village(v, 3), 0);
            Due.due("new village(" + v + ", 5)", x.village(v, 5), near[v]);
        }
        Due.due("new party(0, 0)", x.party(0, 0), 0);
        Due.due("new party(1, 0)", x.party(1, 0), 3);
        int[] counts = {6, 2, 0, 0, 0, 81, 0, 0, 0, 0, 0};
        for (int what = 0; what < counts.length; what++) {
            Due.due("new count(" + what + ")", x.count(what), counts[what]);
        }
        Due.due("new fault()", x.fault(), NONE);
        Due.due("new undo()", x.undo(), NO);
        Due.due("new back()", x.back(), NO);
    }

    private static void write() {
        NotAnOx x = new NotAnOx();
        Due.due("write(31)", x.write(31), BAD);
        Due.due("write(127)", x.write(127), BAD);
        Due.due("write(-1)", x.write(-1), BAD);
        Due.due("write(65536 + 118)", x.write(65536 + 118), BAD);
        Due.due("write(MIN)", x.write(Integer.MIN_VALUE), BAD);
        Due.due("write(32)", x.write(32), 1);
        Due.due("write(126)", x.write(126), 2);
        for (int i = 3; i <= 200; i++) {
            Due.due("write to " + i, x.write('v'), i);
        }
        Due.due("write to 201", x.write('v'), FULL);
        Due.due("BAD ahead of FULL", x.write(127), BAD);
        Due.due("count(10) of a full one", x.count(10), 200);
    }

    private static void wipe() {
        NotAnOx x = Due.written("v0,1;p0;");
        Due.due("wipe()", x.wipe(), 8);
        Due.due("wipe() again", x.wipe(), 0);
        Due.due("count(10) wiped", x.count(10), 0);
        Due.due("write behind wipe()", x.write('x'), 1);
        Due.due("fault behind wipe()", x.fault(), 0);
        Due.due("villages stay by wipe()", x.count(0), 6);
    }

    private static void fault(String text, int place) {
        Due.due("fault() of " + text, Due.written(text).fault(), place);
        if (place != NONE) {
            Due.due("lay() of " + text, Due.written(text).lay(), NO);
        }
    }

    private static void faultOfForm() {
        fault("", NONE);
        fault("v0,12;", NONE);
        fault("v00,05;v04,60;w00,01,09;p00;", NONE);
        fault("v0,12", 0);
        fault("v", 0);
        fault(";", 0);
        fault(" v0,12;", 0);
        fault("V0,12;", 0);
        fault("v0,12;;", 6);
        fault("v0,12; p0;", 6);
        fault("v0,12;p", 6);
        fault("v0,12;p;", 6);
        fault("v0,12;p0", 6);
        fault("v0,12;p0,", 6);
        fault("v0,12;p0,0;", 6);
        fault("v0;", 0);
        fault("v0,;", 0);
        fault("v,1;", 0);
        fault("v0,1,1;", 0);
        fault("v0,001;", 0);
        fault("v000,1;", 0);
        fault("v0,-1;", 0);
        fault("v0,+1;", 0);
        fault("v0;1;", 0);
        fault("v0,1:", 0);
        fault("v0,1/;", 0);
        fault("v0,1;v0,1;w0,1;", 10);
        fault("v0,1;v0,1;w0,1,2,3;", 10);
        fault("v0,1;v0,1;w0,1,2;x", 17);
        fault("v0,1;x;v9,9;", 5);
    }

    private static void faultOfNumbers() {
        fault("v4,60;", NONE);
        fault("v5,1;", 0);
        fault("v14,1;", 0);
        fault("v0,0;", NONE);
        fault("v0,61;", 0);
        fault("v0,99;", 0);
        fault("v0,1;v0,1;w0,1,1;w0,1,20;", NONE);
        fault("v0,1;v0,1;w0,1,0;", 10);
        fault("v0,1;v0,1;w0,1,21;", 10);
        fault("v0,1;v0,1;w0,0,1;", 10);
        fault("v0,1;v0,1;w1,1,1;", 10);
        fault("v0,1;v0,1;w0,2,1;v0,1;", 10);
        fault("v0,1;v0,1;w2,0,1;v0,1;", 10);
        fault("w0,1,1;v0,1;v0,1;", 0);
        fault("v0,1;p1;v0,1;", 5);
        fault("p0;v0,1;", 0);
        fault("v0,1;p0;v0,1;p1;w0,1,3;p0;", NONE);
    }

    private static void faultOfLimits() {
        String seven = "v0,1;v0,1;v0,1;v0,1;v0,1;v0,1;v0,1;";
        fault(seven, NONE);
        fault(seven + "v0,1;", 35);
        fault(seven + "p6;p6;p0;", NONE);
        fault(seven + "p6;p6;p0;p1;", 44);
        fault(seven + "p7;", 35);
        fault(seven + "w6,5,1;w5,6,20;", NONE);
        fault(seven + "w6,7,1;", 35);
        // 35 letters and 165 of ways: a text of 200 letters
        StringBuilder full = new StringBuilder(seven).append("p0;p0;p0;");
        for (int i = 0; i < 22; i++) {
            full.append("w0,1,1;");
        }
        fault(full.toString(), NONE);
        fault(full + "v9", 198);
    }

    private static void lay() {
        Due.due("lay() of nothing", new NotAnOx().lay(), NO);
        Due.due("lay() without a party", Due.written("v0,1;").lay(), NO);
        Due.due("lay() of one", Due.written("v0,1;p0;").lay(), 1);
        Due.due("lay() of seven", Due.written("v0,1;v0,1;v0,1;v0,1;v0,1;v0,1;v0,1;p6;").lay(), 7);
        NotAnOx seven = Due.laid("v0,1;v0,2;v0,3;v0,4;v0,5;v0,6;v0,7;p6;");
        Due.due("oxen of seven", seven.count(5), 28);
        NotAnOx x = Due.written("v0,1;v2,50;p1;p0;w0,1,9;w1,0,4;");
        Due.due("lay() of two", x.lay(), 2);
        Due.due("count(0)", x.count(0), 2);
        Due.due("count(1)", x.count(1), 2);
        Due.due("count(5)", x.count(5), 51);
        Due.due("party(0, 0)", x.party(0, 0), 1);
        Due.due("party(1, 0)", x.party(1, 0), 0);
        Due.due("the last way of two", x.far(0, 1), 4);
        Due.due("the text stays", x.count(10), 31);
        Due.due("lay() again", x.lay(), 2);
    }

    private static void layClears() {
        NotAnOx x = Due.laid("v0,10;v4,20;v3,7;w0,1,2;w1,2,3;p0;p2;");
        x.ask(0, 0);
        x.ask(1, 1);
        x.check(0);
        x.see(2, 4);
        x.keep();
        Due.due("lay() over a book", x.lay(), 3);
        int[] counts = {3, 2, 0, 0, 0, 37, 0, 0, 0, 0, 37};
        for (int what = 0; what < counts.length; what++) {
            Due.due("laid anew, count(" + what + ")", x.count(what), counts[what]);
        }
        Due.due("laid anew, oxen 0", x.village(0, 1), 10);
        Due.due("laid anew, oxen 1", x.village(1, 1), 20);
        Due.due("laid anew, party 1", x.party(1, 0), 2);
        Due.due("laid anew, undo()", x.undo(), NO);
        Due.due("laid anew, back()", x.back(), NO);
        Due.due("laid anew, forget()", x.forget(), 0);
        x.wipe();
        Due.writeInto(x, "v1,3;p0;");
        Due.due("a smaller one", x.lay(), 1);
        Due.due("ways are gone", x.village(0, 5), 0);
        Due.due("villages are gone", x.village(1, 0), BAD);
        Due.due("parties are gone", x.party(1, 0), BAD);
        Due.due("oxen are gone", x.count(5), 3);
    }

    private static void refusedLayChangesNothing() {
        NotAnOx x = Due.laid("v0,10;v1,20;w0,1,2;p0;");
        x.ask(0, 1);
        x.see(0, 4);
        x.keep();
        x.wipe();
        Due.writeInto(x, "v3,5;v3,6;v3,7;p2;p1;y");
        Due.due("lay() with a fault", x.lay(), NO);
        int[] counts = {2, 1, 1, 0, 10, 30, 3, 1, 1, 1, 22};
        for (int what = 0; what < counts.length; what++) {
            Due.due("refused, count(" + what + ")", x.count(what), counts[what]);
        }
        Due.due("refused, kind", x.village(0, 0), 0);
        Due.due("refused, far", x.far(0, 1), 2);
        Due.due("fault() changes nothing", x.fault(), 21);
        Due.due("refused, near", x.village(1, 5), 1);
    }

    private static void village() {
        NotAnOx x = Due.laid("v4,9;v0,12;v1,21;v2,8;v3,5;w1,2,1;w1,3,1;w1,4,1;w0,4,1;p1;");
        Due.due("village(-1, 0)", x.village(-1, 0), BAD);
        Due.due("village(5, 0)", x.village(5, 0), BAD);
        Due.due("village(0, -1)", x.village(0, -1), BAD);
        Due.due("village(0, 6)", x.village(0, 6), BAD);
        int[] alone = {9, 12, 10, 0, 5};
        for (int v = 0; v < 5; v++) {
            Due.due("alone village(" + v + ", 4)", x.village(v, 4), alone[v]);
        }
        x.ask(0, 1);
        Due.due("in the book, 4", x.village(1, 4), NONE);
        Due.due("in the book, 2", x.village(1, 2), 12);
        Due.due("not checked", x.village(1, 3), 0);
        int[] watched = {9, NONE, 21, 8, 12};
        for (int v = 0; v < 5; v++) {
            Due.due("watched village(" + v + ", 4)", x.village(v, 4), watched[v]);
        }
        x.check(1);
        Due.due("checked", x.village(1, 3), 1);
        Due.due("ask the copier", x.ask(0, 4), 12);
        Due.due("the mover would swear to", x.village(0, 4), 0);
        Due.due("would moves nothing", x.village(0, 1), 9);
        Due.due("ask the mover", x.ask(0, 0), 0);
        Due.due("moved from", x.village(0, 1), 0);
        Due.due("moved to", x.village(4, 1), 14);
        Due.due("written stays", x.village(4, 2), 12);
        Due.due("near 1", x.village(1, 5), 28);
        Due.due("near 4", x.village(4, 5), 3);
    }

    private static void party() {
        NotAnOx x = Due.laid("v0,10;v1,20;w0,1,7;p0;p1;p0;");
        Due.due("party(-1, 0)", x.party(-1, 0), BAD);
        Due.due("party(3, 0)", x.party(3, 0), BAD);
        Due.due("party(0, -1)", x.party(0, -1), BAD);
        Due.due("party(0, 2)", x.party(0, 2), BAD);
        x.ask(2, 1);
        Due.due("party(2, 0)", x.party(2, 0), 1);
        Due.due("party(2, 1)", x.party(2, 1), 8);
        Due.due("party(0, 0)", x.party(0, 0), 0);
        Due.due("party(0, 1)", x.party(0, 1), 0);
        x.ask(0, 0);
        Due.due("asked where it is", x.party(0, 1), 1);
    }

    private static void far() {
        NotAnOx x = Due.laid("v0,1;v0,1;v0,1;v0,1;v0,1;w3,0,1;w0,1,20;w0,2,9;w2,1,10;w2,3,7;p0;");
        Due.due("far(-1, 0)", x.far(-1, 0), BAD);
        Due.due("far(0, -1)", x.far(0, -1), BAD);
        Due.due("far(5, 0)", x.far(5, 0), BAD);
        Due.due("far(0, 5)", x.far(0, 5), BAD);
        Due.due("far(2, 2)", x.far(2, 2), 0);
        Due.due("far(0, 1) by 3 and 2", x.far(0, 1), 18);
        Due.due("far(1, 0)", x.far(1, 0), 18);
        Due.due("far(0, 2) by 3", x.far(0, 2), 8);
        Due.due("far(0, 4)", x.far(0, 4), NONE);
        Due.due("far(4, 1)", x.far(4, 1), NONE);
        Due.due("far(4, 4)", x.far(4, 4), 0);
        NotAnOx y = Due.laid("v0,1;v0,1;w0,1,2;w1,0,20;p0;");
        Due.due("the later way, though longer", y.far(0, 1), 20);
        NotAnOx z = Due.laid("v0,1;v0,1;v0,1;v0,1;v0,1;v0,1;v0,1;w0,1,20;w1,2,20;w2,3,20;w3,4,20;w4,5,20;w5,6,20;p0;");
        Due.due("the farthest", z.far(0, 6), 120);
    }
}
