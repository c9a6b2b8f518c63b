/** Promises 1 to 8, the edges that the document's sentences name: texts, shires, ways. */
public final class ShiresEdgesTest {
    private static final int BAD = Due.BAD, NO = Due.NO, FULL = Due.FULL, NONE = Due.NONE;
    private static final String FIRST =
        "v0,12;v1,20;v2,9;v3,15;v4,18;v1,7;w0,1,2;w1,2,3;w2,3,1;w3,4,2;w4,5,4;w0,5,6;w1,4,3;p0;p3;";
    private static final String SEVEN = "v0,1;v0,1;v0,1;v0,1;v0,1;v0,1;v0,1;";

    public static void main(String[] args) {
        newIsAsLaid();
        lettersFrom32To126();
        lettersAreTwoHundredAtMost();
        fullLeavesTheText();
        wipeEmptiesTheText();
        faultIsThePlaceOfTheFirstItem();
        faultOfEachPrefix();
        faultOfEachLetter();
        oneOrTwoFigures();
        kindsAndOxenOfAVillage();
        sevenVillagesAtMost();
        waysBetweenUnlikeOnesToldAhead();
        daysOfAWay();
        theLastWayOfEachTwo();
        partiesToldAheadThreeAtMost();
        laidIsAVillageAndAPartyAtLeast();
        layEmptiesAFullBook();
        layStaysWithTheText();
        villageInAndOutOfTheBook();
        villageOfSeven();
        partiesAsManyAsThereAre();
        farByWays();
        Due.end();
    }

    /** "As told; THE TEXT is empty": a new object is one with the first shire laid. */
    private static void newIsAsLaid() {
        NotAnOx laid = Due.laid(FIRST);
        laid.wipe();
        NotAnOx fresh = new NotAnOx();
        Due.same("a new object", Look.at(fresh), Look.at(laid));
        Due.due("new: lay() of an empty text", new NotAnOx().lay(), NO);
        Due.due("new: wipe()", new NotAnOx().wipe(), 0);
        Due.due("new: forget()", new NotAnOx().forget(), 0);
    }

    private static void lettersFrom32To126() {
        for (int letter = -300; letter <= 700; letter++) {
            int want = letter >= 32 && letter <= 126 ? 1 : BAD;
            Due.due("new write(" + letter + ")", new NotAnOx().write(letter), want);
        }
        int[] wild = {Integer.MIN_VALUE, Integer.MIN_VALUE + 118, -65536 + 118, 65536 + 118, 131072 + 59,
            (1 << 24) + 44, Integer.MAX_VALUE};
        NotAnOx x = new NotAnOx();
        for (int letter : wild) {
            Due.due("write(" + letter + ")", x.write(letter), BAD);
        }
        Due.due("BAD ones are not written", x.count(10), 0);
    }

    private static void lettersAreTwoHundredAtMost() {
        NotAnOx x = new NotAnOx();
        for (int i = 1; i <= 200; i++) {
            Due.due("letter " + i, x.write(32 + i % 95), i);
        }
        for (int i = 0; i < 3; i++) {
            Due.due("letter 201", x.write(126), FULL);
        }
        Due.due("a full text: BAD first", x.write(31), BAD);
        Due.due("a full text, wiped", x.wipe(), 200);
        Due.due("written again", x.write(126), 1);
    }

    private static void fullLeavesTheText() {
        StringBuilder text = new StringBuilder(SEVEN).append("p0;p1;p2;");
        while (text.length() < 198) {
            text.append("w0,1,1;");
        }
        // 44 letters and 22 ways: 198
        NotAnOx x = Due.written(text.toString());
        Due.due("198 letters", x.count(10), 198);
        x.write('p');
        Due.due("a letter more", x.fault(), 198);
        Due.due("letter 200", x.write('0'), 200);
        Due.due("no room for the ;", x.write(';'), FULL);
        Due.due("an item that is cut off", x.fault(), 198);
        Due.due("it is not laid", x.lay(), NO);
        StringBuilder just = new StringBuilder(SEVEN).append("p0;p1;p2;w0,1,20;w0,1,19;");
        while (just.length() < 200) {
            just.append("w0,1,1;");
        }
        // 60 letters and 20 ways: 200
        NotAnOx y = Due.written(just.toString());
        Due.due("a text of 200 letters", y.count(10), 200);
        Due.due("one more is FULL", y.write('x'), FULL);
        Due.due("200 letters without fault", y.fault(), NONE);
        Due.due("200 letters laid", y.lay(), 7);
        Due.due("the last way of 22", y.far(0, 1), 1);
    }

    private static void wipeEmptiesTheText() {
        NotAnOx x = Due.written("v0,1;p0;v9");
        Due.due("fault ahead of wipe()", x.fault(), 8);
        Due.due("how long it was", x.wipe(), 10);
        Due.due("empty: fault()", x.fault(), NONE);
        Due.due("empty: lay()", x.lay(), NO);
        Due.due("empty: wipe()", x.wipe(), 0);
        x.write('v');
        Due.due("what was written ahead of it is gone", x.fault(), 0);
        Due.writeInto(x, "0,5;p0;");
        Due.due("a shorter text over a longer one", x.fault(), NONE);
        Due.due("a shorter text, laid", x.lay(), 1);
    }

    private static void fault(String text, int place) {
        Due.due("fault() of " + text, Due.written(text).fault(), place);
    }

    private static void faultIsThePlaceOfTheFirstItem() {
        fault("x", 0);
        fault("v0,1;x", 5);
        fault("v0,1;p0;x;y;", 8);
        fault("v9,9;x", 0);
        fault("v0,1;w0,0,1;p5;", 5);
        fault("v0,1;p0;v0,1;w0,1,99;v", 13);
        // a whole item ahead of one that is cut off; the place is that of the letter, not of the fault in it
        fault("v0,1;v0,61;", 5);
        fault("v0,1;v0,1;w0,1,1", 10);
        StringBuilder text = new StringBuilder(SEVEN).append("p0;p1;w0,1,20;w0,1,20;");
        while (text.length() < 199) {
            text.append("w0,1,1;");
        }
        // 57 letters and 142 behind them are no whole ways: the last begins at 197
        Due.due("letters of this text", text.length(), 204);
        fault(text.substring(0, 197), NONE);
        fault(text.substring(0, 198), 197);
        fault(text.substring(0, 197) + "x", 197);
        fault(text.substring(0, 200), 197);
    }

    private static void faultOfEachPrefix() {
        for (int length = 0; length <= FIRST.length(); length++) {
            String text = FIRST.substring(0, length);
            boolean whole = text.isEmpty() || text.endsWith(";");
            fault(text, whole ? NONE : text.lastIndexOf(';') + 1);
            int want = whole && text.indexOf('p') >= 0 ? 6 : NO;
            Due.due("lay() of " + text, Due.written(text).lay(), want);
        }
    }

    /** Each place of a text holds each letter once; Plain tells the fault by a pattern. */
    private static void faultOfEachLetter() {
        String text = "v1,23;v0,4;w0,1,15;p1;";
        for (int place = 0; place < text.length(); place++) {
            for (char letter = 32; letter <= 126; letter++) {
                StringBuilder other = new StringBuilder(text);
                other.setCharAt(place, letter);
                Plain plain = new Plain();
                for (int i = 0; i < other.length(); i++) {
                    plain.write(other.charAt(i));
                }
                fault(other.toString(), plain.fault());
            }
        }
        for (char letter = 32; letter <= 126; letter++) {
            fault("v0,1;" + letter, 5);
            boolean village = letter == 'v';
            boolean way = letter == 'w';
            boolean party = letter == 'p';
            fault("v0,1;v0,2;" + letter + "1,2;", village ? NONE : 10);
            fault("v0,1;v0,2;" + letter + "1,0,3;", way ? NONE : 10);
            fault("v0,1;v0,2;" + letter + "1;", party ? NONE : 10);
        }
    }

    private static void oneOrTwoFigures() {
        fault("v4,60;v04,60;v4,06;v04,06;", NONE);
        fault("v004,6;", 0);
        fault("v4,006;", 0);
        fault("v4,060;", 0);
        fault("v,6;", 0);
        fault("v4,;", 0);
        fault("v;", 0);
        fault("v0,1;v0,1;w00,01,02;", NONE);
        fault("v0,1;v0,1;w000,01,02;", 10);
        fault("v0,1;v0,1;w0,001,2;", 10);
        fault("v0,1;v0,1;w0,1,002;", 10);
        fault("v0,1;v0,1;w,1,2;", 10);
        fault("v0,1;v0,1;w0,,2;", 10);
        fault("v0,1;v0,1;w0,1,;", 10);
        fault("v0,1;p00;", NONE);
        fault("v0,1;p000;", 5);
        fault("v0,1;p;", 5);
        fault("v0,1;p,;", 5);
    }

    private static void kindsAndOxenOfAVillage() {
        for (int kind = 0; kind <= 99; kind++) {
            for (int oxen = 0; oxen <= 99; oxen++) {
                fault("v" + kind + "," + oxen + ";", kind <= 4 && oxen <= 60 ? NONE : 0);
            }
        }
    }

    private static void sevenVillagesAtMost() {
        for (int villages = 1; villages <= 9; villages++) {
            StringBuilder text = new StringBuilder();
            for (int v = 0; v < villages; v++) {
                text.append("v0,1;");
            }
            fault(text.toString(), villages <= 7 ? NONE : 35);
            text.append("p0;");
            Due.due("lay() of " + text, Due.written(text.toString()).lay(), villages <= 7 ? villages : NO);
        }
        fault(SEVEN + "w0,6,1;v0,1;", 42);
    }

    private static void waysBetweenUnlikeOnesToldAhead() {
        for (int villages = 1; villages <= 7; villages++) {
            String told = SEVEN.substring(0, 5 * villages);
            for (int a = 0; a <= 12; a++) {
                for (int b = 0; b <= 12; b++) {
                    boolean so = a < villages && b < villages && a != b;
                    fault(told + "w" + a + "," + b + ",1;", so ? NONE : told.length());
                }
            }
            fault(told + "w" + villages + ",0,1;v0,1;", told.length());
            fault(told + "w0,99,1;", told.length());
        }
        fault("w0,1,1;", 0);
    }

    private static void daysOfAWay() {
        for (int days = 0; days <= 99; days++) {
            String text = "v0,1;v0,1;p0;w1,0," + days + ";";
            boolean so = days >= 1 && days <= 20;
            fault(text, so ? NONE : 13);
            NotAnOx x = Due.written(text);
            Due.due("lay() of " + text, x.lay(), so ? 2 : NO);
            Due.due("far(0, 1) of " + text, x.far(0, 1), so ? days : 2);
        }
    }

    private static void theLastWayOfEachTwo() {
        NotAnOx x = Due.laid("v0,1;v0,1;v0,1;w0,1,5;w1,0,20;w1,2,20;w2,1,3;w1,2,1;p0;");
        Due.due("told again the other way round", x.far(0, 1), 20);
        Due.due("told three times", x.far(1, 2), 1);
        Due.due("each has its own", x.far(0, 2), 21);
        Due.due("told twice, a neighbour once", x.village(1, 5), 5);
    }

    private static void partiesToldAheadThreeAtMost() {
        for (int v = 0; v <= 12; v++) {
            fault("v0,1;v0,1;v0,1;p" + v + ";", v < 3 ? NONE : 15);
        }
        fault("p0;", 0);
        fault("v0,1;p1;v0,1;", 5);
        StringBuilder text = new StringBuilder("v0,1;v0,1;");
        for (int parties = 1; parties <= 5; parties++) {
            text.append("p1;");
            fault(text.toString(), parties <= 3 ? NONE : 19);
            NotAnOx x = Due.written(text.toString());
            Due.due("lay() of " + text, x.lay(), parties <= 3 ? 2 : NO);
            Due.due("parties of " + text, x.count(1), parties <= 3 ? parties : 2);
        }
    }

    private static void laidIsAVillageAndAPartyAtLeast() {
        Due.due("nothing told", Due.written("").lay(), NO);
        Due.due("a village alone", Due.written("v0,1;").lay(), NO);
        Due.due("seven villages alone", Due.written(SEVEN).lay(), NO);
        Due.due("villages and a way", Due.written("v0,1;v0,1;w0,1,1;").lay(), NO);
        Due.due("a party alone", Due.written("p0;").lay(), NO);
        Due.due("both, and a fault behind them", Due.written("v0,1;p0;v").lay(), NO);
        NotAnOx x = Due.written("v0,0;p0;");
        Due.due("one of each", x.lay(), 1);
        Due.due("one of each: far(0, 0)", x.far(0, 0), 0);
        Due.due("one of each: ask(0, 0)", x.ask(0, 0), 0);
        Due.due("one of each: oxen", x.count(5), 0);
    }

    private static void layEmptiesAFullBook() {
        String text = "v1,10;v4,20;w0,1,2;p0;p1;";
        NotAnOx x = Due.laid(text);
        for (int i = 0; i < 5; i++) {
            x.ask(0, 0);
            x.ask(1, 1);
            x.strike(0);
            x.strike(1);
        }
        x.ask(0, 0);
        x.check(0);
        x.keep();
        x.keep();
        for (int i = 0; i < 7; i++) {
            x.see(1, i);
        }
        int[] full = {2, 2, 1, 1, 30, 30, 6, 6, 8, 2, 25};
        for (int what = 0; what < full.length; what++) {
            Due.due("full, count(" + what + ")", x.count(what), full[what]);
        }
        Due.due("laid over all of it", x.lay(), 2);
        Due.same("laid over all of it", Look.at(x), Look.at(Due.laid(text)));
        Due.due("nothing UNDONE", x.undo(), NO);
        Due.due("nothing KEPT", x.back(), NO);
        Due.due("nothing SEEN", x.forget(), 0);
    }

    private static void layStaysWithTheText() {
        NotAnOx x = Due.written("v0,5;p0;");
        Due.due("lay()", x.lay(), 1);
        Due.due("the text stays", x.count(10), 8);
        Due.due("written behind it", x.write('p'), 9);
        Due.due("a text with a fault is not laid", x.lay(), NO);
        Due.due("the text stays by NO", x.count(10), 9);
        Due.writeInto(x, "0;");
        Due.due("mended", x.lay(), 1);
        Due.due("a second party", x.count(1), 2);
    }

    private static void villageInAndOutOfTheBook() {
        NotAnOx x = Due.laid("v2,60;v4,60;v0,0;w0,1,1;p0;p2;");
        Due.due("not in the BOOK: written", x.village(0, 2), NONE);
        Due.due("not in the BOOK: CHECKED", x.village(0, 3), 0);
        Due.due("not in the BOOK: would swear", x.village(0, 4), 0);
        Due.due("an HONEST one without OXEN would swear", x.village(2, 4), 0);
        x.ask(0, 0);
        Due.due("0 is written, which is not NONE", x.village(0, 2), 0);
        Due.due("in the BOOK: would swear", x.village(0, 4), NONE);
        Due.due("in the BOOK, not CHECKED", x.village(0, 3), 0);
        Due.due("a MOVER would swear", x.village(1, 4), 0);
        Due.due("none are moved by that", x.village(0, 1), 60);
        x.ask(0, 1);
        Due.due("OXEN now, above 60", x.village(0, 1), 120);
        Due.due("OXEN now, moved off", x.village(1, 1), 0);
        x.check(0);
        Due.due("CHECKED", x.village(0, 3), 1);
        Due.due("written, above 60", x.village(0, 2), 120);
        x.strike(0);
        Due.due("STRUCK OUT: written", x.village(0, 2), NONE);
        Due.due("STRUCK OUT: CHECKED", x.village(0, 3), 0);
        Due.due("STRUCK OUT: would swear", x.village(0, 4), 0);
        Due.due("STRUCK OUT: OXEN stay", x.village(0, 1), 120);
        int[] wild = {Integer.MIN_VALUE, -1, 3, 6, 7, 32, Integer.MAX_VALUE};
        for (int v : wild) {
            for (int what = 0; what <= 5; what++) {
                Due.due("village(" + v + ", " + what + ")", x.village(v, what), BAD);
            }
        }
        int[] wildWhat = {Integer.MIN_VALUE, -1, 6, 7, 32, Integer.MAX_VALUE};
        for (int what : wildWhat) {
            Due.due("village(0, " + what + ")", x.village(0, what), BAD);
        }
    }

    private static void villageOfSeven() {
        NotAnOx x = Due.laid("v0,0;v1,10;v2,20;v3,30;v4,40;v0,50;v1,60;w6,0,1;w6,1,1;w6,2,1;w6,3,1;w6,4,1;w6,5,1;p0;");
        int[] kinds = {0, 1, 2, 3, 4, 0, 1};
        for (int v = 0; v < 7; v++) {
            Due.due("seven: KIND of " + v, x.village(v, 0), kinds[v]);
            Due.due("seven: OXEN of " + v, x.village(v, 1), 10 * v);
            Due.due("seven: NEIGHBOURS of " + v, x.village(v, 5), v == 6 ? 63 : 64);
        }
        Due.due("an eighth", x.village(7, 0), BAD);
        Due.due("no NEIGHBOUR", Due.laid("v0,1;v0,1;p0;").village(1, 5), 0);
    }

    private static void partiesAsManyAsThereAre() {
        String text = "v0,1;v0,1;";
        for (int parties = 1; parties <= 3; parties++) {
            text += "p1;";
            NotAnOx x = Due.laid(text);
            for (int p = -2; p <= 5; p++) {
                boolean there = p >= 0 && p < parties;
                Due.due(parties + " PARTIES: where " + p + " is", x.party(p, 0), there ? 1 : BAD);
                Due.due(parties + " PARTIES: days of " + p, x.party(p, 1), there ? 0 : BAD);
                Due.due(parties + " PARTIES: party(" + p + ", 2)", x.party(p, 2), BAD);
                Due.due(parties + " PARTIES: party(" + p + ", -1)", x.party(p, -1), BAD);
            }
            Due.due("party(MIN, 0)", x.party(Integer.MIN_VALUE, 0), BAD);
            Due.due("party(MAX, 0)", x.party(Integer.MAX_VALUE, 0), BAD);
            Due.due("party(0, MAX)", x.party(0, Integer.MAX_VALUE), BAD);
        }
    }

    private static void farByWays() {
        NotAnOx line = Due.laid(SEVEN
            + "w0,1,20;w1,2,20;w2,3,20;w3,4,20;w4,5,20;w5,6,20;p0;");
        for (int a = 0; a < 7; a++) {
            for (int b = 0; b < 7; b++) {
                Due.due("a line: far(" + a + ", " + b + ")", line.far(a, b), 20 * Math.abs(a - b));
            }
        }
        NotAnOx none = Due.laid(SEVEN + "p0;");
        for (int a = 0; a < 7; a++) {
            for (int b = 0; b < 7; b++) {
                Due.due("no ways: far(" + a + ", " + b + ")", none.far(a, b), a == b ? 0 : NONE);
            }
        }
        // a way of six short ones takes fewer days than one of 20
        NotAnOx round = Due.laid(SEVEN + "w0,6,20;w0,3,1;w3,1,2;w1,5,3;w5,2,4;w2,4,4;w4,6,5;p0;");
        Due.due("the long way round", round.far(0, 6), 19);
        Due.due("the long way round, turned", round.far(6, 0), 19);
        NotAnOx same = Due.laid("v0,1;v0,1;v0,1;w0,1,10;w1,2,10;w0,2,20;p0;");
        Due.due("as many days by both", same.far(0, 2), 20);
        int[] wild = {Integer.MIN_VALUE, -1, 3, 7, Integer.MAX_VALUE};
        for (int v : wild) {
            Due.due("far(" + v + ", 0)", same.far(v, 0), BAD);
            Due.due("far(0, " + v + ")", same.far(0, v), BAD);
            Due.due("far(" + v + ", " + v + "), though alike", same.far(v, v), BAD);
        }
    }
}
