/** Promises 9 to 12, the edges that the document's sentences name: asked, checked, struck out, undone. */
public final class BookEdgesTest {
    private static final int BAD = Due.BAD, NO = Due.NO, NONE = Due.NONE;
    private static final String STAR = "w0,1,1;w0,2,1;w0,3,1;w0,4,1;w0,5,1;w0,6,1;";

    public static void main(String[] args) {
        askedAreSuchAsThereAre();
        notInTheBookToBeAsked();
        noWayToBeAsked();
        daysFarAndOne();
        honestOnesSwearToTheirOxen();
        hidersSwearToHalfCut();
        wasteOnesSwearToNone();
        onlyAnHonestNeighbourInTheBookIsFeared();
        eachHonestNeighbourIsFeared();
        copiersOfTheLowest();
        moversToTheLowest();
        moversWithoutOxen();
        checkedOnce();
        checkedMostAndFewest();
        struckOutAndAskedAgain();
        undoneIsTheLatest();
        undoneEightAtMost();
        undoneGoesRound();
        undoneIsNotWhatIsRefused();
        Due.end();
    }

    private static void askedAreSuchAsThereAre() {
        NotAnOx x = Due.laid("v0,1;v0,2;w0,1,1;p0;p1;");
        int[] wild = {Integer.MIN_VALUE, -2, -1, 2, 3, 7, 32, Integer.MAX_VALUE};
        for (int bad : wild) {
            Due.due("ask(" + bad + ", 0)", x.ask(bad, 0), BAD);
            Due.due("ask(0, " + bad + ")", x.ask(0, bad), BAD);
            Due.due("ask(" + bad + ", " + bad + ")", x.ask(bad, bad), BAD);
            Due.due("check(" + bad + ")", x.check(bad), BAD);
            Due.due("strike(" + bad + ")", x.strike(bad), BAD);
        }
        Due.due("the last PARTY, the last VILLAGE", x.ask(1, 1), 2);
        Due.due("the first PARTY, the first VILLAGE", x.ask(0, 0), 1);
        for (int bad : wild) {
            Due.due("in the BOOK, but BAD first: ask(" + bad + ", 0)", x.ask(bad, 0), BAD);
        }
        NotAnOx seven = Due.laid("v0,1;v0,2;v0,3;v0,4;v0,5;v0,6;v0,7;p6;p6;p6;");
        Due.due("the third PARTY, the seventh VILLAGE", seven.ask(2, 6), 7);
        Due.due("a fourth PARTY", seven.ask(3, 0), BAD);
        Due.due("an eighth VILLAGE", seven.ask(0, 7), BAD);
    }

    private static void notInTheBookToBeAsked() {
        NotAnOx x = Due.laid("v0,1;v0,2;w0,1,1;p0;p1;");
        x.ask(0, 0);
        Due.due("in the BOOK, by who asked it", x.ask(0, 0), NO);
        Due.due("in the BOOK, by another", x.ask(1, 0), NO);
        x.check(0);
        Due.due("in the BOOK and CHECKED", x.ask(0, 0), NO);
        Due.due("days stay by NO", x.party(0, 1) + x.party(1, 1), 1);
        Due.due("places stay by NO", x.party(1, 0), 1);
        x.strike(0);
        Due.due("STRUCK OUT", x.ask(1, 0), 1);
    }

    private static void noWayToBeAsked() {
        NotAnOx x = Due.laid("v0,1;v0,2;v0,3;v0,4;w0,1,1;w2,3,1;p0;p2;p2;");
        Due.due("no way", x.ask(0, 2), NO);
        Due.due("no way to a NEIGHBOUR of such a one", x.ask(0, 3), NO);
        Due.due("no way from there", x.ask(1, 1), NO);
        Due.due("it stays where it is", x.party(0, 0), 0);
        Due.due("a way for another PARTY", x.ask(1, 3), 4);
        Due.due("in the BOOK and no way", x.ask(0, 3), NO);
        NotAnOx lone = Due.laid("v0,9;v0,2;p0;");
        Due.due("where it is, without ways", lone.ask(0, 0), 9);
        Due.due("one day for it", lone.party(0, 1), 1);
        Due.due("nowhere else", lone.ask(0, 1), NO);
    }

    private static void daysFarAndOne() {
        NotAnOx x = Due.laid("v0,1;v0,1;v0,1;v0,1;v0,1;v0,1;v0,1;w0,1,20;w1,2,20;w2,3,20;w3,4,20;w4,5,20;w5,6,20;p0;p6;");
        x.ask(0, 6);
        Due.due("the farthest, and 1", x.party(0, 1), 121);
        x.ask(0, 0);
        Due.due("and back", x.party(0, 1), 242);
        x.ask(1, 5);
        Due.due("another's days are its own", x.party(1, 1), 21);
        x.strike(0);
        x.ask(0, 0);
        Due.due("where it is, FAR 0", x.party(0, 1), 243);
        Due.due("days of the one that has had most", x.count(6), 243);
    }

    private static void swears(String kind, int oxen, int want) {
        NotAnOx x = Due.laid("v" + kind + "," + oxen + ";p0;");
        Due.due("KIND " + kind + " of " + oxen + " would swear", x.village(0, 4), want);
        Due.due("KIND " + kind + " of " + oxen + " swears", x.ask(0, 0), want);
        Due.due("KIND " + kind + " of " + oxen + " has", x.village(0, 1), oxen);
        Due.due("KIND " + kind + " of " + oxen + ", written", x.village(0, 2), want);
    }

    private static void honestOnesSwearToTheirOxen() {
        for (int oxen = 0; oxen <= 60; oxen++) {
            swears("0", oxen, oxen);
            swears("3", oxen, oxen);
            swears("4", oxen, oxen);
        }
        NotAnOx x = Due.laid("v0,60;v4,60;w0,1,1;p0;");
        x.ask(0, 0);
        x.ask(0, 1);
        x.strike(0);
        Due.due("HONEST, with those that were moved to it", x.ask(0, 0), 120);
    }

    private static void hidersSwearToHalfCut() {
        for (int oxen = 0; oxen <= 60; oxen++) {
            swears("1", oxen, oxen / 2);
        }
        NotAnOx x = Due.laid("v1,60;v4,59;w0,1,1;p0;");
        x.ask(0, 0);
        x.ask(0, 1);
        x.strike(0);
        x.strike(1);
        Due.due("half of 119, cut", x.ask(0, 0), 59);
    }

    private static void wasteOnesSwearToNone() {
        for (int oxen = 0; oxen <= 60; oxen++) {
            swears("2", oxen, 0);
        }
    }

    private static void onlyAnHonestNeighbourInTheBookIsFeared() {
        // 0 is HONEST, 1 a HIDER, 2 a WASTE one, 3 a COPIER, 4 a MOVER, 5 a WASTE one two ways off
        NotAnOx x = Due.laid("v0,0;v1,9;v2,8;v3,7;v4,0;v2,6;w0,1,1;w0,2,1;w1,2,1;w1,3,1;w1,4,1;w2,3,1;w2,4,1;w1,5,1;p0;");
        Due.due("not in the BOOK: the HIDER", x.village(1, 4), 4);
        Due.due("not in the BOOK: the WASTE one", x.village(2, 4), 0);
        x.ask(0, 3);
        x.ask(0, 4);
        Due.due("others in the BOOK: the HIDER", x.village(1, 4), 4);
        Due.due("others in the BOOK: the WASTE one", x.village(2, 4), 0);
        x.ask(0, 0);
        Due.due("in the BOOK, without OXEN: the HIDER", x.village(1, 4), 9);
        Due.due("in the BOOK, without OXEN: the WASTE one", x.village(2, 4), 8);
        Due.due("two ways off", x.village(5, 4), 0);
        Due.due("the HIDER is asked", x.ask(0, 1), 9);
        Due.due("a HIDER that swore to all is not HONEST", x.village(5, 4), 0);
        x.check(1);
        Due.due("nor is one that is CHECKED", x.village(5, 4), 0);
        x.strike(0);
        Due.due("STRUCK OUT: the WASTE one", x.village(2, 4), 0);
        Due.due("what is written stays", x.village(1, 2), 9);
    }

    private static void eachHonestNeighbourIsFeared() {
        NotAnOx x = Due.laid("v0,1;v1,9;v0,2;v2,8;v0,3;w0,1,1;w1,2,1;w2,3,1;w3,4,1;p0;");
        for (int honest = 0; honest <= 4; honest += 2) {
            x.ask(0, honest);
            Due.due("HONEST " + honest + ": the HIDER", x.village(1, 4), honest == 4 ? 4 : 9);
            Due.due("HONEST " + honest + ": the WASTE one", x.village(3, 4), honest == 0 ? 0 : 8);
            x.strike(honest);
        }
        x.ask(0, 0);
        x.ask(0, 2);
        x.strike(0);
        Due.due("one of two is STRUCK OUT", x.ask(0, 1), 9);
    }

    private static void copiersOfTheLowest() {
        NotAnOx x = Due.laid("v0,5;v3,40;v2,30;v0,9;v3,50;w1,2,1;w1,3,1;w1,4,1;w0,4,1;p0;p1;");
        Due.due("none is in the BOOK", x.village(1, 4), 40);
        x.ask(0, 0);
        Due.due("one that is no NEIGHBOUR is", x.village(1, 4), 40);
        Due.due("a COPIER of 0", x.ask(0, 4), 5);
        Due.due("a COPIER of a COPIER", x.village(1, 4), 5);
        x.check(4);
        Due.due("of what is written by a CHECKING", x.village(1, 4), 50);
        x.ask(0, 3);
        Due.due("of the lower of two", x.village(1, 4), 9);
        x.ask(0, 2);
        Due.due("0 is written of the lowest of three", x.village(1, 4), 0);
        Due.due("a COPIER of 0 of a WASTE one", x.ask(0, 1), 0);
        x.strike(1);
        x.strike(2);
        x.strike(3);
        Due.due("the highest is the lowest then", x.ask(0, 1), 50);
        x.check(1);
        Due.due("CHECKED it has its own", x.village(1, 2), 40);
    }

    private static void moversToTheLowest() {
        NotAnOx x = Due.laid("v0,1;v4,60;v2,2;v0,3;v4,60;w1,2,1;w1,3,1;w1,4,1;w0,4,1;p0;p1;");
        x.ask(0, 0);
        Due.due("one that is no NEIGHBOUR is in the BOOK", x.village(1, 4), 60);
        x.ask(1, 3);
        x.ask(1, 2);
        x.check(2);
        Due.due("a MOVER beside two", x.ask(1, 1), 0);
        Due.due("to the lower one, though CHECKED", x.village(2, 1), 62);
        Due.due("none to the higher one", x.village(3, 1), 3);
        Due.due("none to one that is no NEIGHBOUR", x.village(0, 1), 1);
        Due.due("what is written there stays", x.village(2, 2), 2);
        Due.due("CHECKED it stays", x.check(2), NO);
        Due.due("an HONEST NEIGHBOUR is not feared", x.ask(0, 4), 0);
        Due.due("all of them to 0", x.village(0, 1), 61);
        Due.due("OXEN in all", x.count(5), 126);
    }

    private static void moversWithoutOxen() {
        NotAnOx x = Due.laid("v0,1;v4,0;v4,7;w0,1,1;w1,2,1;p0;");
        x.ask(0, 0);
        Due.due("0 of 0 are moved", x.ask(0, 1), 0);
        Due.due("none more there", x.village(0, 1), 1);
        Due.due("to a MOVER in the BOOK", x.ask(0, 2), 0);
        Due.due("it has them", x.village(1, 1), 7);
        x.strike(1);
        Due.due("on to the lowest, not back", x.ask(0, 1), 0);
        Due.due("on to 0", x.village(0, 1), 8);
        x.strike(2);
        Due.due("moved already", x.ask(0, 2), 0);
        Due.due("none to move", x.village(1, 1), 0);
    }

    private static void checkedOnce() {
        NotAnOx x = Due.laid("v2,5;v4,6;w0,1,1;p0;");
        Due.due("not in the BOOK", x.check(0), NO);
        x.ask(0, 0);
        Due.due("not this one", x.check(1), NO);
        Due.due("CHECKED", x.check(0), 505);
        Due.due("CHECKED already", x.check(0), NO);
        x.ask(0, 1);
        Due.due("CHECKED already, though there is more", x.check(0), NO);
        Due.due("as it was CHECKED", x.village(0, 2), 5);
        x.strike(0);
        Due.due("STRUCK OUT", x.check(0), NO);
        x.ask(0, 0);
        Due.due("asked anew", x.check(0), 511);
    }

    private static void checkedMostAndFewest() {
        NotAnOx x = Due.laid("v2,60;v4,60;v4,60;v4,60;v4,60;v4,60;v4,60;" + STAR + "p0;");
        for (int v = 0; v < 7; v++) {
            Due.due("0 of all", x.ask(0, v), 0);
        }
        Due.due("none more", x.check(6), 500);
        Due.due("all OXEN of seven", x.check(0), 920);
        Due.due("all OXEN of seven, FOUND", x.count(4), 420);
        Due.due("all OXEN of seven, struck", x.strike(0), 420);
        NotAnOx y = Due.laid("v0,60;v4,60;v4,60;v4,60;v4,60;v4,60;v3,0;" + STAR + "p0;");
        for (int v = 0; v < 6; v++) {
            y.ask(0, v);
        }
        y.check(0);
        Due.due("a copy of six villages' OXEN", y.ask(0, 6), 360);
        Due.due("360 fewer", y.check(6), 140);
        Due.due("FOUND then", y.count(4), 360);
    }

    private static void struckOutAndAskedAgain() {
        NotAnOx x = Due.laid("v2,5;v0,6;w0,1,1;p0;");
        Due.due("not in the BOOK", x.strike(0), NO);
        x.ask(0, 0);
        Due.due("0 was written", x.strike(0), 0);
        Due.due("STRUCK OUT already", x.strike(0), NO);
        x.ask(0, 1);
        x.ask(0, 0);
        Due.due("5 was written", x.strike(0), 5);
        x.ask(0, 0);
        x.check(0);
        Due.due("CHECKED ones", x.count(3), 1);
        x.strike(0);
        Due.due("nor CHECKED", x.count(3), 0);
        Due.due("the other stays", x.village(1, 2), 6);
        Due.due("FOUND", x.count(4), 6);
        Due.due("the PARTY stays", x.party(0, 0), 0);
        Due.due("its days stay", x.party(0, 1), 6);
        Due.due("the last one", x.strike(1), 6);
        Due.due("an empty BOOK", x.count(2), 0);
    }

    private static void undoneIsTheLatest() {
        NotAnOx x = Due.laid("v2,5;v4,6;v4,9;w0,1,4;w1,2,1;p0;p1;");
        Due.due("nothing", x.undo(), NO);
        String[] stood = new String[7];
        stood[0] = Look.shortly(x);
        x.ask(0, 0);
        stood[1] = Look.shortly(x);
        x.ask(0, 1);
        stood[2] = Look.shortly(x);
        x.check(0);
        stood[3] = Look.shortly(x);
        x.strike(0);
        stood[4] = Look.shortly(x);
        x.ask(1, 2);
        stood[5] = Look.shortly(x);
        x.ask(1, 0);
        for (int left = 5; left >= 0; left--) {
            Due.due("UNDONE, more can be", x.undo(), left);
            Due.same("UNDONE, " + left + " left", Look.shortly(x), stood[left]);
        }
        Due.due("all is UNDONE", x.undo(), NO);
        Due.due("UNDONE: not CHECKED, not in the BOOK", x.village(0, 2), NONE);
    }

    private static void undoneEightAtMost() {
        for (int done = 0; done <= 20; done++) {
            NotAnOx x = Due.laid("v0,1;p0;");
            for (int i = 0; i < done; i++) {
                Due.due("done", i % 2 == 0 ? x.ask(0, 0) : x.strike(0), 1);
            }
            int can = Math.min(done, 8);
            Due.due(done + " done, can be UNDONE", x.count(8), can);
            for (int left = can - 1; left >= 0; left--) {
                Due.due(done + " done, UNDONE", x.undo(), left);
            }
            Due.due(done + " done, no more", x.undo(), NO);
            int stay = done - can;
            Due.due(done + " done, days of those that stay", x.party(0, 1), (stay + 1) / 2);
            Due.due(done + " done, in the BOOK", x.count(2), stay % 2);
        }
    }

    /** More and fewer in turn, so that the eight lie at each place of whatever row holds them. */
    private static void undoneGoesRound() {
        NotAnOx x = Due.laid("v0,1;p0;");
        String[] stood = new String[200];
        int done = 0;
        int can = 0;
        for (int turn = 0; turn < 13; turn++) {
            for (int i = 0; i < 2 + turn % 4; i++) {
                stood[done] = x.count(2) + " " + x.party(0, 1);
                done++;
                can = Math.min(8, can + 1);
                Due.due("round: done", x.count(2) == 0 ? x.ask(0, 0) : x.strike(0), 1);
            }
            for (int i = 0; i < 1 + turn % 3 && can > 0; i++) {
                done--;
                can--;
                Due.due("round: UNDONE", x.undo(), can);
                Due.same("round: stands", x.count(2) + " " + x.party(0, 1), stood[done]);
            }
            Due.due("round: can be", x.count(8), can);
        }
    }

    private static void undoneIsNotWhatIsRefused() {
        NotAnOx x = Due.laid("v2,5;v0,6;v0,1;w0,1,1;p0;");
        x.ask(0, 1);
        x.ask(0, 0);
        x.ask(0, 0);
        x.ask(0, 2);
        x.ask(1, 0);
        x.check(2);
        x.check(3);
        x.strike(2);
        x.strike(-1);
        Due.due("two were done", x.count(8), 2);
        Due.due("the latest is UNDONE", x.undo(), 1);
        Due.due("which was 0", x.village(0, 2), NONE);
        Due.due("not 1", x.village(1, 2), 6);
        x.see(0, 1);
        x.keep();
        x.wipe();
        Due.due("none of these is UNDONE", x.undo(), 0);
        Due.due("but the asking of 1", x.village(1, 2), NONE);
        Due.due("SEEN stays", x.count(7), 1);
        Due.due("KEPT stays", x.count(9), 1);
    }
}
