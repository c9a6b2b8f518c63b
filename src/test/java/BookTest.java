/** Promises 9 to 12: ask, check, strike, undo. */
public final class BookTest {
    private static final int BAD = Due.BAD, NO = Due.NO, NONE = Due.NONE;

    public static void main(String[] args) {
        askRefused();
        askedByDays();
        hidersAndWaste();
        copiers();
        movers();
        check();
        strike();
        undo();
        undoTheLastEight();
        Due.end();
    }

    private static void askRefused() {
        NotAnOx x = Due.laid("v0,10;v1,20;v0,5;w0,1,7;p0;p2;");
        Due.due("ask(-1, 0)", x.ask(-1, 0), BAD);
        Due.due("ask(2, 0)", x.ask(2, 0), BAD);
        Due.due("ask(0, -1)", x.ask(0, -1), BAD);
        Due.due("ask(0, 3)", x.ask(0, 3), BAD);
        Due.due("no way", x.ask(0, 2), NO);
        Due.due("no way back", x.ask(1, 0), NO);
        Due.due("nothing to undo", x.count(8), 0);
        Due.due("its own place", x.ask(1, 2), 5);
        Due.due("in the book", x.ask(1, 2), NO);
        Due.due("BAD ahead of NO", x.ask(2, 2), BAD);
        Due.due("no days by NO", x.party(1, 1), 1);
        Due.due("one to undo", x.count(8), 1);
    }

    private static void askedByDays() {
        NotAnOx x = Due.laid("v0,10;v0,20;v0,5;w0,1,7;w1,2,4;p0;p2;");
        Due.due("ask(0, 2)", x.ask(0, 2), 5);
        Due.due("days by two ways, and 1", x.party(0, 1), 12);
        Due.due("where it is", x.party(0, 0), 2);
        Due.due("ask(0, 1)", x.ask(0, 1), 20);
        Due.due("days add up", x.party(0, 1), 17);
        Due.due("the other has none", x.party(1, 1), 0);
        Due.due("count(6)", x.count(6), 17);
    }

    private static void hidersAndWaste() {
        NotAnOx x = Due.laid("v1,7;v2,9;v0,4;v3,6;w0,1,1;w0,2,1;w1,2,1;w0,3,1;p0;");
        Due.due("a hider, half, cut", x.ask(0, 0), 3);
        Due.due("waste beside a hider", x.ask(0, 1), 0);
        Due.due("oxen of the hider", x.village(0, 1), 7);
        x.strike(0);
        x.strike(1);
        x.ask(0, 2);
        Due.due("a hider beside an honest one", x.ask(0, 0), 7);
        Due.due("waste beside an honest one", x.ask(0, 1), 9);
        x.strike(0);
        x.strike(2);
        Due.due("honest, but struck out", x.ask(0, 0), 3);
        NotAnOx y = Due.laid("v1,7;v3,9;v0,4;w0,1,1;w1,2,1;p0;");
        y.ask(0, 2);
        Due.due("honest, but two ways off", y.ask(0, 0), 3);
    }

    private static void copiers() {
        NotAnOx x = Due.laid("v1,9;v3,50;v0,8;v0,30;w1,0,1;w1,2,1;w1,3,1;w0,3,1;p0;");
        Due.due("a copier without any", x.village(1, 4), 50);
        x.ask(0, 3);
        Due.due("of 3", x.village(1, 4), 30);
        x.ask(0, 2);
        Due.due("of 2, lower", x.village(1, 4), 8);
        x.strike(3);
        x.ask(0, 0);
        Due.due("what is written, not oxen", x.ask(0, 1), 4);
        Due.due("its oxen stay", x.village(1, 1), 50);
    }

    private static void movers() {
        NotAnOx x = Due.laid("v4,10;v4,20;v1,7;v0,1;w0,1,1;w1,2,1;w0,2,1;w2,3,1;p3;");
        Due.due("a mover without any", x.ask(0, 1), 20);
        Due.due("it keeps its own", x.village(1, 1), 20);
        Due.due("a mover beside one", x.ask(0, 0), 0);
        Due.due("by night", x.village(0, 1), 0);
        Due.due("to the other", x.village(1, 1), 30);
        Due.due("what is written there", x.village(1, 2), 20);
        Due.due("a hider", x.ask(0, 2), 3);
        x.strike(1);
        Due.due("moved to the lowest", x.ask(0, 1), 0);
        Due.due("all of them", x.village(0, 1), 30);
        Due.due("none to 2", x.village(2, 1), 7);
        Due.due("no ox is lost", x.count(5), 38);
        x.strike(0);
        x.strike(1);
        Due.due("moved to a hider", x.ask(0, 0), 0);
        Due.due("the hider has", x.village(2, 1), 37);
    }

    private static void check() {
        NotAnOx x = Due.laid("v1,60;v2,60;v3,2;v4,50;w0,1,1;w0,2,1;w0,3,1;p0;");
        Due.due("check(-1)", x.check(-1), BAD);
        Due.due("check(4)", x.check(4), BAD);
        Due.due("not in the book", x.check(0), NO);
        x.ask(0, 0);
        x.ask(0, 2);
        Due.due("thirty more", x.check(0), 530);
        Due.due("written", x.village(0, 2), 60);
        Due.due("checked already", x.check(0), NO);
        Due.due("fewer", x.check(2), 472);
        Due.due("count(3)", x.count(3), 2);
        Due.due("count(4)", x.count(4), 62);
        x.ask(0, 3);
        Due.due("more by night", x.village(0, 1), 110);
        Due.due("still checked", x.check(0), NO);
        Due.due("still written", x.village(0, 2), 60);
        Due.due("none", x.check(3), 500);
        Due.due("to undo", x.count(8), 6);
    }

    private static void strike() {
        NotAnOx x = Due.laid("v1,60;v0,4;w0,1,5;p0;");
        Due.due("strike(-1)", x.strike(-1), BAD);
        Due.due("strike(2)", x.strike(2), BAD);
        Due.due("not in the book", x.strike(0), NO);
        x.ask(0, 0);
        x.check(0);
        Due.due("what was written", x.strike(0), 60);
        Due.due("not in the book then", x.village(0, 2), NONE);
        Due.due("nor checked", x.village(0, 3), 0);
        Due.due("count(2)", x.count(2), 0);
        Due.due("count(3)", x.count(3), 0);
        Due.due("count(4)", x.count(4), 0);
        Due.due("again", x.strike(0), NO);
        Due.due("days stay", x.party(0, 1), 1);
        Due.due("asked again", x.ask(0, 0), 30);
        Due.due("not checked again", x.check(0), 530);
    }

    private static void undo() {
        NotAnOx x = Due.laid("v4,10;v1,20;w0,1,3;p0;p1;");
        Due.due("nothing yet", x.undo(), NO);
        x.ask(0, 1);
        x.ask(1, 0);
        x.check(1);
        x.strike(0);
        Due.due("the striking", x.undo(), 3);
        Due.due("in the book again", x.village(0, 2), 0);
        Due.due("the checking", x.undo(), 2);
        Due.due("not checked", x.village(1, 3), 0);
        Due.due("written as sworn", x.village(1, 2), 10);
        Due.due("moved", x.village(1, 1), 30);
        Due.due("the asking", x.undo(), 1);
        Due.due("moved back", x.village(0, 1), 10);
        Due.due("and not there", x.village(1, 1), 20);
        Due.due("party back", x.party(1, 0), 1);
        Due.due("days back", x.party(1, 1), 0);
        Due.due("the first", x.undo(), 0);
        Due.due("party 0 back", x.party(0, 0), 0);
        Due.due("the book is empty", x.count(2), 0);
        Due.due("no more", x.undo(), NO);
        x.see(0, 3);
        x.ask(0, 0);
        x.undo();
        Due.due("seen stays by undo", x.count(7), 1);
    }

    private static void undoTheLastEight() {
        NotAnOx x = Due.laid("v0,1;p0;");
        for (int i = 0; i < 6; i++) {
            x.ask(0, 0);
            x.strike(0);
            Due.due("count(8)", x.count(8), Math.min(8, 2 * i + 2));
        }
        for (int left = 7; left >= 0; left--) {
            Due.due("undo() of eight", x.undo(), left);
            Due.due("in the book", x.count(2), left % 2);
        }
        Due.due("a ninth", x.undo(), NO);
        Due.due("days of the two that stay", x.party(0, 1), 2);
        x.ask(0, 0);
        Due.due("one anew", x.undo(), 0);
    }
}
