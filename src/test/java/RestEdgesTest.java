/** Promises 13 to 16, the edges that the document's sentences name: the rest, orders, checks. */
public final class RestEdgesTest {
    private static final int BAD = Due.BAD, NONE = Due.NONE;
    private static final String SEVEN = "v0,1;v0,1;v0,1;v0,1;v0,1;v0,1;v0,1;";
    private static final String LINE = "w0,1,20;w1,2,20;w2,3,20;w3,4,20;w4,5,20;w5,6,20;";
    private static final int[] WILD = {Integer.MIN_VALUE, Integer.MIN_VALUE + 1, -100, -3, -2, 8, 9, 32, 33,
        65536, Integer.MAX_VALUE};

    public static void main(String[] args) {
        soonestOfSuchAsThereAre();
        soonestOfSeven();
        soonestOfThreeParties();
        soonestInWhicheverOrder();
        soonestOfNoRest();
        soonestOfOneThatAsksNone();
        soonestOfWhatOneAloneComesTo();
        soonestOfNone();
        whoByTheFirstSharing();
        ordersOfSuchAsThereAre();
        ordersOfNoneOneAndSeven();
        ordersFirstOfSeveral();
        ordersWaysAndDaysAside();
        ordersByWhatStands();
        checksOfSuchAsThereAre();
        checksOfFewer();
        checksLowestOfSeveral();
        checksMostAndFewest();
        checksOfCheckedOnes();
        Due.end();
    }

    private static void who(String what, NotAnOx x, int... due) {
        for (int v = 0; v < due.length; v++) {
            Due.due(what + ", WHO of " + v, x.soonest(v), due[v]);
        }
    }

    private static void most(String what, NotAnOx x, int... due) {
        for (int k = 0; k <= 7; k++) {
            Due.due(what + ", most(" + k + ")", x.most(k), k < due.length ? due[k] : NONE);
        }
    }

    private static void least(String what, NotAnOx x, int... due) {
        for (int k = 0; k <= 7; k++) {
            Due.due(what + ", least(" + k + ")", x.least(k), k < due.length ? due[k] : NONE);
        }
    }

    private static void checks(String what, NotAnOx x, int n, int more, int which) {
        Due.due(what + ", checks(" + n + ", 0)", x.checks(n, 0), 500 + more);
        Due.due(what + ", checks(" + n + ", 1)", x.checks(n, 1), which);
    }

    private static void soonestOfSuchAsThereAre() {
        NotAnOx x = Due.laid("v0,1;v0,1;w0,1,1;p0;");
        for (int v : WILD) {
            Due.due("soonest(" + v + ")", x.soonest(v), BAD);
        }
        Due.due("soonest(2) of two", x.soonest(2), BAD);
        Due.due("soonest(7) of two", x.soonest(7), BAD);
        x.ask(0, 0);
        x.ask(0, 1);
        Due.due("no REST, but BAD first", x.soonest(2), BAD);
        NotAnOx none = Due.laid("v0,1;v0,1;p0;");
        Due.due("none, but BAD first", none.soonest(2), BAD);
        Due.due("seven: soonest(7)", Due.laid(SEVEN + "p0;").soonest(7), BAD);
    }

    private static void soonestOfSeven() {
        // each has a day, and 20 days are between them
        NotAnOx end = Due.laid(SEVEN + LINE + "p0;");
        Due.due("from an end", end.soonest(-1), 7 + 6 * 20);
        who("from an end", end, 0, 0, 0, 0, 0, 0, 0);
        NotAnOx middle = Due.laid(SEVEN + LINE + "p3;");
        Due.due("from the middle", middle.soonest(-1), 7 + 9 * 20);
        NotAnOx near = Due.laid(SEVEN + LINE + "p1;");
        Due.due("from near an end", near.soonest(-1), 7 + 7 * 20);
        // 0 stands in the middle of a star: out and back again for all but the last
        NotAnOx star = Due.laid(SEVEN + "w0,1,1;w0,2,2;w0,3,3;w0,4,4;w0,5,5;w0,6,20;p0;");
        Due.due("a star, the farthest last", star.soonest(-1), 7 + 2 * 15 + 20);
    }

    private static void soonestOfThreeParties() {
        NotAnOx x = Due.laid(SEVEN + LINE + "p0;p3;p6;");
        // one of three asks three at least: 1 + 21 + 21; the first PARTY can not ask four in so many
        Due.due("three on a line", x.soonest(-1), 43);
        who("three on a line", x, 0, 0, 0, 1, 1, 1, 2);
        NotAnOx turned = Due.laid(SEVEN + LINE + "p6;p3;p0;");
        Due.due("three, turned round", turned.soonest(-1), 43);
        // no PARTY below the third asks 0 in so many; the second asks 3, 2, 1, the first 6, 5, 4
        who("three, turned round", turned, 2, 1, 1, 1, 0, 0, 0);
        NotAnOx apart = Due.laid("v0,1;v0,1;v0,1;p2;p0;p1;");
        Due.due("each where it is", apart.soonest(-1), 1);
        who("each where it is", apart, 1, 2, 0);
    }

    private static void soonestInWhicheverOrder() {
        // by number 0, 1, 2, 3 it would be 1 + 11 + 21 + 11; by 0, 3, 2, 1 it is 1 + 2 + 11 + 2
        NotAnOx x = Due.laid("v0,1;v0,1;v0,1;v0,1;w0,1,10;w0,3,1;w3,2,10;w2,1,1;p0;");
        Due.due("not by number", x.soonest(-1), 16);
        NotAnOx y = Due.laid("v0,1;v0,1;v0,1;w0,1,2;w0,2,3;p0;");
        y.ask(0, 0);
        Due.due("the nearest first", y.soonest(-1), 1 + 3 + 6);
        NotAnOx z = Due.laid("v0,1;v0,1;v0,1;v0,1;w0,1,3;w0,2,4;w2,3,4;p0;");
        z.ask(0, 0);
        Due.due("back from the nearest", z.soonest(-1), 1 + 4 + 8 + 5);
    }

    private static void soonestOfNoRest() {
        NotAnOx x = Due.laid("v0,1;v0,1;w0,1,5;p0;p1;");
        x.ask(0, 1);
        x.ask(1, 0);
        Due.due("no REST: what has been had", x.soonest(-1), 6);
        who("no REST", x, NONE, NONE);
        NotAnOx y = Due.laid("v0,1;p0;");
        Due.due("one of REST", y.soonest(-1), 1);
        who("one of REST", y, 0);
        y.ask(0, 0);
        Due.due("none of REST", y.soonest(-1), 1);
        who("none of REST", y, NONE);
        y.strike(0);
        Due.due("STRUCK OUT it is of REST", y.soonest(-1), 2);
        who("STRUCK OUT it is of REST", y, 0);
    }

    private static void soonestOfOneThatAsksNone() {
        NotAnOx x = Due.laid("v0,1;v0,1;v0,1;w0,1,20;w1,2,20;p0;p2;");
        x.ask(0, 1);
        x.ask(0, 0);
        // party 0 has had 42 days; party 1 asks 2 in one
        Due.due("it has what it has had", x.soonest(-1), 42);
        who("it has what it has had", x, NONE, NONE, 1);
        NotAnOx y = Due.laid("v0,1;v0,1;w0,1,20;p0;p0;p0;");
        y.ask(0, 1);
        y.strike(1);
        // party 0 asks 1 again: 22; party 1 asks it: 21 and so has party 0
        Due.due("another's days are fewer", y.soonest(-1), 21);
        who("another's days are fewer", y, 1, 2);
    }

    private static void soonestOfWhatOneAloneComesTo() {
        NotAnOx x = Due.laid("v0,1;v0,1;v0,1;v0,1;w0,1,1;w2,3,9;p0;p3;");
        Due.due("two parts of a shire", x.soonest(-1), 11);
        who("two parts of a shire", x, 0, 0, 1, 1);
        NotAnOx y = Due.laid("v0,1;v0,1;v0,1;w0,2,9;p1;p0;p0;");
        // 0 and 2 by one PARTY: 1 + 10; by two: 1 and 10
        Due.due("the first PARTY comes to one alone", y.soonest(-1), 10);
        who("the first PARTY comes to one alone", y, 1, 0, 2);
    }

    private static void soonestOfNone() {
        NotAnOx x = Due.laid("v0,1;v0,1;v0,1;w0,1,4;p0;p1;p1;");
        Due.due("2 is come to by none", x.soonest(-1), NONE);
        who("2 is come to by none", x, NONE, NONE, NONE);
        x.ask(0, 0);
        x.ask(1, 1);
        Due.due("2 alone is of REST", x.soonest(-1), NONE);
        who("2 alone is of REST", x, NONE, NONE, NONE);
        NotAnOx y = Due.laid("v0,1;v0,1;v0,1;w0,1,4;p2;");
        Due.due("two are come to by none", y.soonest(-1), NONE);
        y.ask(0, 2);
        Due.due("where it is, is in the BOOK", y.soonest(-1), NONE);
        NotAnOx z = Due.laid("v0,1;v0,1;p0;p1;");
        z.ask(1, 1);
        Due.due("come to by none, but in the BOOK", z.soonest(-1), 1);
        who("come to by none, but in the BOOK", z, 0, NONE);
    }

    private static void whoByTheFirstSharing() {
        NotAnOx all = Due.laid("v0,1;v0,1;v0,1;w0,1,1;w1,2,1;w0,2,1;p0;p0;p0;");
        // two each in three days, or one each: 1, 2, 2
        Due.due("three at one place", all.soonest(-1), 2);
        who("three at one place", all, 0, 1, 2);
        NotAnOx y = Due.laid("v0,1;v0,1;v0,1;v0,1;w0,1,1;w1,2,1;w2,3,1;p1;p2;");
        // two each: 1 then 0 is 3, 2 then 3 is 3; no other sharing takes 3
        Due.due("two of four", y.soonest(-1), 3);
        who("two of four", y, 0, 0, 1, 1);
        NotAnOx z = Due.laid("v0,1;v0,1;v0,1;w0,1,20;w1,2,1;w0,2,20;p0;p1;");
        z.ask(0, 0);
        // either has 1 and 2 in three days; party 0 has had 1, and 20 off
        Due.due("the other is near", z.soonest(-1), 3);
        who("the other is near", z, NONE, 1, 1);
        NotAnOx late = Due.laid("v0,1;v0,1;v0,1;v0,1;w0,1,9;w0,2,1;w2,3,1;p0;p0;");
        late.ask(1, 1);
        // party 1 has had 10, so party 0 may ask all three in 1 + 2 + 2
        Due.due("all by the first", late.soonest(-1), 10);
        who("all by the first", late, 0, NONE, 0, 0);
    }

    private static void ordersOfSuchAsThereAre() {
        NotAnOx x = Due.laid("v0,1;v0,1;p0;");
        for (int k : WILD) {
            Due.due("most(" + k + ")", x.most(k), BAD);
            Due.due("least(" + k + ")", x.least(k), BAD);
        }
        Due.due("most(-1)", x.most(-1), BAD);
        Due.due("least(-1)", x.least(-1), BAD);
        Due.due("most(7) of two", x.most(7), NONE);
        Due.due("least(7) of two", x.least(7), NONE);
    }

    private static void ordersOfNoneOneAndSeven() {
        NotAnOx x = Due.laid("v2,60;v0,5;w0,1,1;p0;");
        x.ask(0, 0);
        most("one of REST", x, 5, 1);
        least("one of REST", x, 5, 1);
        x.check(0);
        most("one of REST, one CHECKED", x, 65, 1);
        x.ask(0, 1);
        most("none of REST", x, 65);
        least("none of REST", x, 65);
        NotAnOx alone = Due.laid("v1,9;p0;");
        most("a VILLAGE alone", alone, 4, 0);
        least("a VILLAGE alone", alone, 4, 0);
        alone.ask(0, 0);
        alone.check(0);
        most("a VILLAGE alone, CHECKED", alone, 9);
        NotAnOx seven = Due.laid(SEVEN + "p0;");
        most("seven alike", seven, 7, 0, 1, 2, 3, 4, 5, 6);
        least("seven alike", seven, 7, 0, 1, 2, 3, 4, 5, 6);
        // the HONEST one is the last: first for most, last for least
        NotAnOx star = Due.laid("v2,1;v2,2;v2,4;v2,8;v2,16;v2,32;v0,60;"
            + "w6,0,1;w6,1,1;w6,2,1;w6,3,1;w6,4,1;w6,5,1;p0;");
        most("the last one first", star, 123, 6, 0, 1, 2, 3, 4, 5);
        least("the last one last", star, 60, 0, 1, 2, 3, 4, 5, 6);
    }

    private static void ordersFirstOfSeveral() {
        // 2 must come behind 3; of such orders the first is 0, 1, 3, 2; for least the other way
        NotAnOx x = Due.laid("v0,1;v0,1;v1,9;v0,1;w2,3,1;p0;");
        most("of several", x, 12, 0, 1, 3, 2);
        least("of several", x, 7, 0, 1, 2, 3);
        // a COPIER of the greater for most, of the smaller for least; the lowest in the BOOK counts
        NotAnOx y = Due.laid("v3,10;v0,2;v0,50;w0,1,1;w0,2,1;p0;");
        most("a COPIER", y, 102, 2, 0, 1);
        least("a COPIER", y, 54, 1, 0, 2);
        NotAnOx z = Due.laid("v4,0;v4,0;w0,1,1;p0;");
        most("nothing in any order", z, 0, 0, 1);
        least("nothing in any order", z, 0, 0, 1);
    }

    private static void ordersWaysAndDaysAside() {
        NotAnOx x = Due.laid("v0,7;v1,9;v0,3;w1,2,20;p0;");
        Due.due("no PARTY comes to 1", x.ask(0, 1), Due.NO);
        most("no PARTY comes to 1", x, 19, 0, 2, 1);
        least("no PARTY comes to 1", x, 14, 0, 1, 2);
        Due.due("days stay", x.count(6), 0);
    }

    private static void ordersByWhatStands() {
        NotAnOx x = Due.laid("v0,7;v2,9;v4,3;w0,1,1;w1,2,1;p0;");
        most("an empty BOOK", x, 19, 0, 2, 1);
        least("an empty BOOK", x, 7, 1, 0, 2);
        x.ask(0, 1);
        most("0 is written of 1", x, 7, 0, 2);
        x.check(1);
        most("9 is written of 1", x, 16, 0, 2);
        least("9 is written of 1", x, 16, 0, 2);
        x.strike(1);
        x.ask(0, 0);
        most("0 is in the BOOK", x, 19, 2, 1);
        least("0 is in the BOOK", x, 16, 1, 2);
    }

    private static void checksOfSuchAsThereAre() {
        NotAnOx x = new NotAnOx();
        x.ask(0, 1);
        for (int n : WILD) {
            Due.due("checks(" + n + ", 0)", x.checks(n, 0), BAD);
            Due.due("checks(1, " + n + ")", x.checks(1, n), BAD);
        }
        Due.due("checks(0, 0)", x.checks(0, 0), BAD);
        Due.due("checks(4, 0)", x.checks(4, 0), BAD);
        Due.due("checks(0, 1)", x.checks(0, 1), BAD);
        Due.due("checks(4, 1)", x.checks(4, 1), BAD);
        Due.due("checks(3, -1)", x.checks(3, -1), BAD);
        Due.due("checks(3, 2)", x.checks(3, 2), BAD);
    }

    private static void checksOfFewer() {
        NotAnOx x = Due.laid("v1,10;v1,20;v1,30;v1,40;p0;p1;p2;");
        for (int n = 1; n <= 3; n++) {
            checks("none in the BOOK", x, n, 0, 0);
        }
        x.ask(1, 1);
        for (int n = 1; n <= 3; n++) {
            checks("one in the BOOK", x, n, 10, 2);
        }
        x.ask(0, 0);
        checks("two in the BOOK", x, 1, 10, 2);
        checks("two in the BOOK", x, 2, 15, 3);
        checks("two in the BOOK, for three", x, 3, 15, 3);
        x.ask(2, 2);
        checks("three in the BOOK", x, 1, 15, 4);
        checks("three in the BOOK", x, 2, 25, 6);
        checks("three in the BOOK", x, 3, 30, 7);
    }

    private static void checksLowestOfSeveral() {
        NotAnOx x = Due.laid(SEVEN + "w0,1,1;w1,2,1;w2,3,1;w3,4,1;w4,5,1;w5,6,1;p0;");
        for (int v = 0; v < 7; v++) {
            x.ask(0, v);
        }
        checks("seven, none more", x, 1, 0, 1);
        checks("seven, none more", x, 2, 0, 3);
        checks("seven, none more", x, 3, 0, 7);
        x.check(0);
        x.check(2);
        checks("five of seven", x, 1, 0, 2);
        checks("five of seven", x, 2, 0, 10);
        checks("five of seven", x, 3, 0, 26);
        // 3 more by 0 and by 1, 5 more by 3, 1 more by 2
        NotAnOx y = Due.laid("v1,6;v1,6;v1,2;v1,10;w0,1,1;w1,2,1;w2,3,1;p0;");
        for (int v = 0; v < 4; v++) {
            y.ask(0, v);
        }
        checks("3 3 1 5", y, 1, 5, 8);
        checks("3 3 1 5", y, 2, 8, 9);
        checks("3 3 1 5", y, 3, 11, 11);
        NotAnOx z = Due.laid("v0,1;v0,1;v0,1;v0,1;v1,60;v1,60;v1,60;w4,5,1;w5,6,1;p4;");
        z.ask(0, 4);
        z.ask(0, 5);
        z.ask(0, 6);
        checks("the three highest", z, 1, 30, 16);
        checks("the three highest", z, 2, 60, 48);
        checks("the three highest", z, 3, 90, 112);
    }

    private static void checksMostAndFewest() {
        NotAnOx x = Due.laid("v2,60;v4,60;v4,60;v4,60;v4,60;v4,60;v4,60;"
            + "w0,1,1;w0,2,1;w0,3,1;w0,4,1;w0,5,1;w0,6,1;p0;");
        for (int v = 0; v < 7; v++) {
            x.ask(0, v);
        }
        for (int n = 1; n <= 3; n++) {
            checks("all OXEN of seven", x, n, 420, (1 << n) - 1);
        }
        NotAnOx y = Due.laid("v0,60;v4,60;v4,60;v3,0;v3,1;v3,2;w0,1,1;w0,2,1;w0,3,1;w0,4,1;w0,5,1;p0;");
        y.ask(0, 0);
        y.ask(0, 1);
        y.ask(0, 2);
        y.check(0);
        y.strike(1);
        y.strike(2);
        y.ask(0, 3);
        y.ask(0, 4);
        y.ask(0, 5);
        // 180 is written of each of the COPIERS
        checks("fewer by each", y, 1, -178, 32);
        checks("fewer by each", y, 2, -357, 48);
        checks("fewer by each", y, 3, -537, 56);
    }

    private static void checksOfCheckedOnes() {
        NotAnOx x = Due.laid("v2,9;v1,9;v4,5;w0,1,1;w0,2,1;p0;");
        x.ask(0, 0);
        x.ask(0, 1);
        checks("two to be CHECKED", x, 1, 9, 1);
        x.check(0);
        checks("one to be CHECKED", x, 1, 5, 2);
        x.ask(0, 2);
        // 14 OXEN are in 0 now, but it is CHECKED
        checks("moved to a CHECKED one", x, 1, 5, 2);
        checks("moved to a CHECKED one", x, 3, 5, 6);
        x.check(1);
        x.check(2);
        for (int n = 1; n <= 3; n++) {
            checks("all CHECKED", x, n, 0, 0);
        }
        x.strike(0);
        checks("STRUCK OUT", x, 2, 0, 0);
        x.ask(0, 0);
        checks("asked anew", x, 2, 14, 1);
    }
}
