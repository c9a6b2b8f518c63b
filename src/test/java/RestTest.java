/** Promises 13 to 16: soonest, most, least, checks. */
public final class RestTest {
    private static final int BAD = Due.BAD, NONE = Due.NONE;

    public static void main(String[] args) {
        soonest();
        soonestOfSeveral();
        soonestWithDaysGoneBy();
        soonestNone();
        most();
        ordersFirstOfSeveral();
        ordersWithoutWays();
        checks();
        checksBelow();
        asksChangeNothing();
        Due.end();
    }

    private static void soonest() {
        NotAnOx x = Due.laid("v0,1;v0,1;v0,1;w0,1,4;w1,2,9;p1;");
        Due.due("soonest(-2)", x.soonest(-2), BAD);
        Due.due("soonest(3)", x.soonest(3), BAD);
        // 1 first (1), then 0 (5), then 2 (14); 2 ahead of 0 would take 1 + 10 + 14
        Due.due("one party", x.soonest(-1), 1 + 5 + 14);
        for (int v = 0; v < 3; v++) {
            Due.due("who of " + v, x.soonest(v), 0);
        }
        x.ask(0, 0);
        Due.due("behind ask(0, 0)", x.soonest(-1), 5 + 5 + 10);
        Due.due("in the book", x.soonest(0), NONE);
        x.ask(0, 1);
        x.ask(0, 2);
        Due.due("all in the book", x.soonest(-1), 20);
        Due.due("who, all in the book", x.soonest(1), NONE);
    }

    private static void soonestOfSeveral() {
        NotAnOx x = Due.laid("v0,1;v0,1;v0,1;v0,1;w0,1,1;w1,2,1;w2,3,1;p0;p3;");
        Due.due("shared by two", x.soonest(-1), 3);
        Due.due("who of 0", x.soonest(0), 0);
        Due.due("who of 1", x.soonest(1), 0);
        Due.due("who of 2", x.soonest(2), 1);
        Due.due("who of 3", x.soonest(3), 1);
        // party 0 and 1 stand at one place: the first sharing gives the lowest village to party 0
        NotAnOx y = Due.laid("v0,1;v0,1;w0,1,2;p0;p0;p0;");
        Due.due("three at one place", y.soonest(-1), 3);
        Due.due("who of 0, first sharing", y.soonest(0), 0);
        Due.due("who of 1, first sharing", y.soonest(1), 1);
        // the first sharing that takes so many days, though another has fewer days in all
        NotAnOx z = Due.laid("v0,1;v0,1;v0,1;w0,2,20;w0,1,3;w1,2,20;p2;p1;");
        Due.due("far off", z.soonest(-1), 5);
        Due.due("far off, who of 0", z.soonest(0), 1);
        Due.due("far off, who of 1", z.soonest(1), 1);
        Due.due("far off, who of 2", z.soonest(2), 0);
    }

    private static void soonestWithDaysGoneBy() {
        NotAnOx x = Due.laid("v0,1;v0,1;v0,1;w0,1,15;w1,2,1;p0;p2;");
        x.ask(0, 1);
        Due.due("days of party 0", x.party(0, 1), 16);
        // party 1 could ask both in 1 + 17 days, but party 0 asking 2 takes no more: 16 + 2
        Due.due("as many days", x.soonest(-1), 18);
        Due.due("who of 2 by the first sharing", x.soonest(2), 0);
        Due.due("who of 0", x.soonest(0), 1);
        NotAnOx z = Due.laid("v0,1;v0,1;v0,1;w0,1,20;w0,2,1;p0;p2;");
        z.ask(0, 1);
        Due.due("one that asks none counts", z.soonest(-1), 21);
        Due.due("one that asks none, who of 0", z.soonest(0), 1);
        NotAnOx y = Due.laid("v0,1;v0,1;v0,1;w0,1,5;w1,2,1;p0;p2;");
        y.ask(0, 1);
        // party 0: 6 days so far, at 1; 2 is 1 off: 8; party 1: 1; then 0: 6 + 1 from 1
        Due.due("of days gone by", y.soonest(-1), 8);
        Due.due("of days gone by, who of 0", y.soonest(0), 1);
        Due.due("of days gone by, who of 2", y.soonest(2), 0);
    }

    private static void soonestNone() {
        NotAnOx x = Due.laid("v0,1;v0,1;v0,1;w0,1,4;p0;p1;");
        Due.due("2 can not be come to", x.soonest(-1), NONE);
        Due.due("nor is there a who of 0", x.soonest(0), NONE);
        Due.due("nor of 2", x.soonest(2), NONE);
        Due.due("BAD all the same", x.soonest(3), BAD);
        NotAnOx y = Due.laid("v0,1;v0,1;v0,1;w0,1,4;p0;p2;");
        Due.due("each its own", y.soonest(-1), 6);
        Due.due("who of 0", y.soonest(0), 0);
        Due.due("who of 2", y.soonest(2), 1);
        y.ask(1, 2);
        Due.due("the one far off is asked", y.soonest(-1), 6);
    }

    private static void most() {
        NotAnOx x = Due.laid("v1,20;v0,5;w0,1,1;p0;");
        Due.due("most(-1)", x.most(-1), BAD);
        Due.due("most(8)", x.most(8), BAD);
        Due.due("least(-1)", x.least(-1), BAD);
        Due.due("least(8)", x.least(8), BAD);
        Due.due("most(0)", x.most(0), 25);
        Due.due("most(1)", x.most(1), 1);
        Due.due("most(2)", x.most(2), 0);
        Due.due("most(3)", x.most(3), NONE);
        Due.due("most(7)", x.most(7), NONE);
        Due.due("least(0)", x.least(0), 15);
        Due.due("least(1)", x.least(1), 0);
        Due.due("least(2)", x.least(2), 1);
        Due.due("least(3)", x.least(3), NONE);
        x.ask(0, 0);
        Due.due("with a book, most(0)", x.most(0), 15);
        Due.due("with a book, least(0)", x.least(0), 15);
        Due.due("with a book, most(1)", x.most(1), 1);
        Due.due("with a book, most(2)", x.most(2), NONE);
        x.ask(0, 1);
        x.check(0);
        Due.due("no rest, most(0)", x.most(0), 25);
        Due.due("no rest, least(0)", x.least(0), 25);
        Due.due("no rest, most(1)", x.most(1), NONE);
        Due.due("no rest, least(1)", x.least(1), NONE);
    }

    private static void ordersFirstOfSeveral() {
        NotAnOx x = Due.laid("v0,3;v0,4;v2,10;w1,2,1;p0;");
        int[] most = {17, 0, 1, 2};
        int[] least = {7, 0, 2, 1};
        for (int k = 0; k < 4; k++) {
            Due.due("first of several, most(" + k + ")", x.most(k), most[k]);
            Due.due("first of several, least(" + k + ")", x.least(k), least[k]);
        }
        // a mover hides its oxen from all but who is asked behind it
        NotAnOx y = Due.laid("v4,10;v4,20;v4,30;w0,1,1;w1,2,1;p0;");
        Due.due("movers, most(0)", y.most(0), 40);
        Due.due("movers, most(1)", y.most(1), 0);
        Due.due("movers, most(2)", y.most(2), 2);
        Due.due("movers, most(3)", y.most(3), 1);
        Due.due("movers, least(0)", y.least(0), 10);
        Due.due("movers, least(1)", y.least(1), 0);
        Due.due("movers, least(2)", y.least(2), 1);
        Due.due("movers, least(3)", y.least(3), 2);
    }

    private static void ordersWithoutWays() {
        NotAnOx x = Due.laid("v0,3;v0,4;v1,9;p0;");
        Due.due("ways aside, most(0)", x.most(0), 11);
        Due.due("ways aside, most(3)", x.most(3), 2);
        NotAnOx y = Due.laid("v0,1;v0,1;v0,1;v0,1;v0,1;v0,1;v0,1;p0;");
        Due.due("seven, most(0)", y.most(0), 7);
        for (int k = 1; k <= 7; k++) {
            Due.due("seven, most(" + k + ")", y.most(k), k - 1);
            Due.due("seven, least(" + k + ")", y.least(k), k - 1);
        }
    }

    private static void checks() {
        NotAnOx x = Due.laid("v1,10;v1,20;v2,20;v1,8;v0,9;p0;p1;p2;");
        Due.due("checks(0, 0)", x.checks(0, 0), BAD);
        Due.due("checks(4, 0)", x.checks(4, 0), BAD);
        Due.due("checks(1, -1)", x.checks(1, -1), BAD);
        Due.due("checks(1, 2)", x.checks(1, 2), BAD);
        Due.due("an empty book", x.checks(3, 0), 500);
        Due.due("an empty book, which", x.checks(3, 1), 0);
        x.ask(0, 0);
        Due.due("fewer than three", x.checks(3, 0), 505);
        Due.due("fewer than three, which", x.checks(3, 1), 1);
        x.ask(1, 1);
        x.ask(2, 2);
        Due.due("one of three", x.checks(1, 0), 520);
        Due.due("one of three, which", x.checks(1, 1), 4);
        Due.due("two of three", x.checks(2, 0), 530);
        Due.due("two of three, which", x.checks(2, 1), 6);
        Due.due("three of three", x.checks(3, 0), 535);
        Due.due("three of three, which", x.checks(3, 1), 7);
        x.check(2);
        Due.due("one checked", x.checks(1, 1), 2);
        Due.due("one checked, of two", x.checks(3, 1), 3);
        NotAnOx y = Due.laid("v0,1;v1,8;v1,9;v1,8;w0,1,1;w0,2,1;w0,3,1;p0;");
        y.ask(0, 1);
        y.ask(0, 2);
        y.ask(0, 3);
        y.ask(0, 0);
        Due.due("nine and half", y.checks(1, 1), 4);
        Due.due("the lowest of several", y.checks(2, 1), 6);
        Due.due("the lowest of several, more", y.checks(2, 0), 509);
    }

    private static void checksBelow() {
        NotAnOx x = Due.laid("v0,60;v3,0;v3,50;w0,1,1;w0,2,1;p0;");
        x.ask(0, 0);
        x.ask(0, 1);
        x.ask(0, 2);
        Due.due("none more is best", x.checks(1, 1), 1);
        Due.due("a set of two, all of two", x.checks(2, 0), 490);
        Due.due("a set of two, which", x.checks(2, 1), 5);
        Due.due("all three, though fewer", x.checks(3, 0), 430);
        x.check(0);
        Due.due("fewer is all there is", x.checks(1, 0), 490);
        Due.due("fewer is all there is, which", x.checks(1, 1), 4);
    }

    private static void asksChangeNothing() {
        NotAnOx x = new NotAnOx();
        x.ask(0, 1);
        x.soonest(-1);
        x.most(0);
        x.least(0);
        x.checks(1, 1);
        x.honest(5, 5, 0);
        x.shire(1, 40, 0);
        int[] counts = {6, 2, 1, 0, 10, 81, 3, 0, 1, 0, 0};
        for (int what = 0; what < counts.length; what++) {
            Due.due("asked, count(" + what + ")", x.count(what), counts[what]);
        }
        Due.due("asked, village(4, 1)", x.village(4, 1), 18);
    }
}
