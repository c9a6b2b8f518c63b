/** Promises 17 to 21: see, forget, kinds, copies, agree. */
public final class SeenTest {
    private static final int BAD = Due.BAD, NO = Due.NO, FULL = Due.FULL;

    public static void main(String[] args) {
        see();
        forget();
        kinds();
        kindsAsThingsStand();
        copies();
        agree();
        Due.end();
    }

    private static void see() {
        NotAnOx x = Due.laid("v0,10;v1,20;w0,1,7;p0;");
        Due.due("see(-1, 0)", x.see(-1, 0), BAD);
        Due.due("see(2, 0)", x.see(2, 0), BAD);
        Due.due("see(0, -1)", x.see(0, -1), BAD);
        Due.due("see(0, 61)", x.see(0, 61), BAD);
        Due.due("nothing seen", x.count(7), 0);
        x.ask(0, 0);
        Due.due("of one in the book", x.see(0, 60), 1);
        Due.due("see(1, 0)", x.see(1, 0), 2);
        for (int i = 3; i <= 6; i++) {
            Due.due("the same again", x.see(1, 0), i);
        }
        Due.due("a seventh", x.see(1, 0), FULL);
        Due.due("BAD ahead of FULL", x.see(1, 61), BAD);
        Due.due("count(7)", x.count(7), 6);
        x.keep();
        x.forget();
        x.see(1, 3);
        x.back();
        Due.due("seen stays by back()", x.count(7), 1);
    }

    private static void forget() {
        NotAnOx x = Due.laid("v0,10;v1,20;w0,1,7;p0;");
        Due.due("nothing", x.forget(), 0);
        x.see(1, 5);
        x.see(0, 10);
        Due.due("two", x.forget(), 2);
        Due.due("none left", x.forget(), 0);
        Due.due("all kinds again", x.kinds(1), 31);
        Due.due("from one on", x.see(0, 0), 1);
    }

    private static void kinds() {
        NotAnOx x = Due.laid("v0,10;v1,20;v3,0;w0,1,7;p0;");
        Due.due("kinds(-1)", x.kinds(-1), BAD);
        Due.due("kinds(3)", x.kinds(3), BAD);
        Due.due("nothing seen", x.kinds(1), 31);
        x.see(1, 20);
        Due.due("honest, copier, mover", x.kinds(1), 1 + 8 + 16);
        Due.due("of another", x.kinds(0), 31);
        x.forget();
        x.see(1, 10);
        Due.due("hider", x.kinds(1), 2);
        x.see(1, 0);
        Due.due("none is both", x.kinds(1), 0);
        x.forget();
        x.see(1, 0);
        Due.due("waste", x.kinds(1), 4);
        x.see(2, 0);
        Due.due("no oxen: any", x.kinds(2), 31);
        x.see(2, 1);
        Due.due("no oxen, 1 seen", x.kinds(2), 0);
        x.ask(0, 1);
        Due.due("in the book", x.kinds(1), NO);
    }

    private static void kindsAsThingsStand() {
        NotAnOx x = Due.laid("v0,10;v1,20;v2,8;w0,1,7;w1,2,1;p0;");
        x.see(1, 20);
        x.ask(0, 0);
        Due.due("beside an honest one", x.kinds(1), 1 + 2 + 4);
        x.forget();
        x.see(1, 10);
        Due.due("copied", x.kinds(1), 8);
        x.forget();
        x.see(1, 0);
        Due.due("moved", x.kinds(1), 16);
        x.strike(0);
        Due.due("struck out", x.kinds(1), 4);
        x.ask(0, 2);
        Due.due("beside waste", x.kinds(1), 4 + 8 + 16);
    }

    private static void copies() {
        NotAnOx x = Due.laid("v0,10;v3,10;v0,10;v3,7;v0,4;w0,1,1;w1,3,1;w3,4,1;p0;p2;");
        Due.due("an empty book", x.copies(), 0);
        x.ask(0, 0);
        x.ask(1, 2);
        Due.due("alike, but no neighbours", x.copies(), 0);
        x.ask(0, 1);
        Due.due("both", x.copies(), 3);
        x.ask(0, 4);
        Due.due("unlike", x.copies(), 3);
        x.ask(0, 3);
        Due.due("three in a row", x.copies(), 11);
        x.check(3);
        Due.due("checked: seven is unlike", x.copies(), 3);
        x.strike(0);
        Due.due("struck out", x.copies(), 0);
        NotAnOx y = Due.laid("v2,10;v2,9;w0,1,1;p0;");
        y.ask(0, 0);
        Due.due("0 is no copy of one not in the book", y.copies(), 0);
        y.ask(0, 1);
        Due.due("0 and 0", y.copies(), 3);
    }

    private static void agree() {
        NotAnOx x = Due.laid("v0,10;v4,20;v1,8;v3,6;w0,1,1;w2,3,1;w1,2,1;p0;");
        Due.due("agree(-1, 0)", x.agree(-1, 0), BAD);
        Due.due("agree(0, 4)", x.agree(0, 4), BAD);
        Due.due("agree(4, 0)", x.agree(4, 0), BAD);
        Due.due("alike", x.agree(0, 0), BAD);
        Due.due("none in the book", x.agree(0, 1), NO);
        x.ask(0, 0);
        Due.due("one in the book", x.agree(0, 1), NO);
        Due.due("one in the book, turned", x.agree(1, 0), NO);
        x.ask(0, 1);
        Due.due("moved", x.agree(0, 1), 0);
        x.check(0);
        Due.due("checked", x.agree(0, 1), 1);
        Due.due("checked, turned", x.agree(1, 0), 1);
        NotAnOx y = Due.laid("v1,8;v3,2;v3,0;w0,1,1;w0,2,1;p0;");
        y.ask(0, 0);
        y.ask(0, 1);
        y.ask(0, 2);
        // 4 of 8, 4 of 2, 4 of 0: the hidden are as many as the copied
        Due.due("fewer and more", y.agree(0, 1), 0);
        Due.due("fewer and as many more", y.agree(0, 2), 1);
        Due.due("more and more", y.agree(1, 2), 0);
    }
}
