/**
 * The bounds of what is KEPT and of what is counted, promises 29 to 31: a test for each sentence that
 * names one, at the bound, below it and above it.
 */
public final class BoundsOfKeptTest {
    private static final int BAD = -1, NO = -2, FULL = -3, NONE = -4;
    private static final Check CHECK = new Check();

    public static void main(String[] args) {
        twoAreKeptAtMost();
        backOfNoneOneAndTwo();
        backToTheLatest();
        keptIsKeptNoMoreBehindBack();
        keptIsAllAsItStands();
        keptIsNotTheText();
        keptIsNotWhatIsSeen();
        nothingIsUndoneBehindBack();
        keepAndBackAreNoActs();
        keptAtTheNinthAct();
        undoDoesNotTouchWhatIsKept();
        countsAtTheLeast();
        countsAtTheGreatest();
        countOfEachNumberAlone();
        countOfWhatIsEaten();
        countOfWhatThereIsNot();
        CHECK.finish("bounds of what is kept");
    }

    private static void twoAreKeptAtMost() {
        SpoonVotes x = new SpoonVotes();
        CHECK.due("none is kept", x.count(9), 0);
        CHECK.due("keep one", x.keep(), 1);
        CHECK.due("one is kept", x.count(9), 1);
        CHECK.due("keep two", x.keep(), 2);
        CHECK.due("two are kept", x.count(9), 2);
        CHECK.due("keep three", x.keep(), FULL);
        CHECK.due("keep four", x.keep(), FULL);
        CHECK.due("two are kept still", x.count(9), 2);
    }

    private static void backOfNoneOneAndTwo() {
        SpoonVotes x = new SpoonVotes();
        CHECK.due("back to none", x.back(), NO);
        x.keep();
        CHECK.due("back to one", x.back(), 0);
        CHECK.due("back behind that", x.back(), NO);
        x.keep();
        x.keep();
        CHECK.due("back to two", x.back(), 1);
        CHECK.due("back to one of two", x.back(), 0);
        CHECK.due("back to none of two", x.back(), NO);
        CHECK.due("none is kept", x.count(9), 0);
    }

    private static void backToTheLatest() {
        SpoonVotes x = Check.laid("m0,1,60,9;p99,0,0;");
        x.eat(1);
        x.keep();
        x.eat(2);
        x.keep();
        x.eat(3);
        CHECK.due("a third is refused", x.keep(), FULL);
        x.eat(4);
        CHECK.due("back to the second", x.back(), 1);
        CHECK.due("the second: eaten", x.count(6), 3);
        CHECK.due("the second: pot", x.count(1), 96);
        CHECK.due("back to the first", x.back(), 0);
        CHECK.due("the first: eaten", x.count(6), 1);
        CHECK.due("the first: pot", x.count(1), 98);
        CHECK.due("back to none", x.back(), NO);
        CHECK.due("still as the first: eaten", x.count(6), 1);
    }

    private static void keptIsKeptNoMoreBehindBack() {
        SpoonVotes x = Check.laid("m0,1,60,9;p99,0,0;");
        x.keep();
        x.eat(1);
        x.keep();
        x.eat(1);
        x.back();
        x.eat(10);
        CHECK.due("another in its place", x.keep(), 2);
        x.eat(10);
        CHECK.due("back to the other", x.back(), 1);
        CHECK.due("the other: eaten", x.count(6), 11);
        CHECK.due("back to the first", x.back(), 0);
        CHECK.due("the first: eaten", x.count(6), 0);
    }

    private static void keptIsAllAsItStands() {
        SpoonVotes x = Check.laid("m0,1,60,9;m2,9,59,8;p50,9,4;r7;f20;");
        x.eat(2);
        x.trade(0, 1);
        x.salt();
        x.keep();
        int[] counts = {2, 48, 7, 5, 7, 117, 2};
        int[][] members = {{2, 9, 58, 9, 2, 18}, {0, 1, 59, 8, 0, 1}};
        x.fast();
        x.cook(99);
        x.cool();
        x.trade(0, 1);
        x.salt();
        x.eat(20);
        CHECK.due("eaten since then, too", x.count(6), 82);
        CHECK.due("back", x.back(), 0);
        for (int what = 0; what < counts.length; what++) {
            CHECK.due("as kept: count " + what, x.count(what), counts[what]);
        }
        for (int i = 0; i < 2; i++) {
            for (int what = 0; what < 6; what++) {
                CHECK.due("as kept: member " + i + ", " + what, x.member(i, what), members[i][what]);
            }
        }
        CHECK.due("as kept: hungrier by 20, 60 at most", x.fast(), 120);
    }

    private static void keptIsNotTheText() {
        SpoonVotes x = Check.written("r5;");
        x.keep();
        x.write('r');
        x.back();
        CHECK.due("what was written since then stays", x.count(10), 4);
        CHECK.due("its fault, too", x.fault(), 3);
        x.keep();
        x.wipe();
        x.back();
        CHECK.due("what was wiped is not as kept", x.count(10), 0);
        CHECK.due("nothing is laid of it", x.lay(), NO);
    }

    private static void keptIsNotWhatIsSeen() {
        SpoonVotes x = new SpoonVotes();
        x.seen(0, 0);
        x.keep();
        for (int k = 0; k < 5; k++) {
            x.seen(0, 0);
        }
        x.back();
        CHECK.due("six are seen", x.count(7), 6);
        CHECK.due("a seventh behind back", x.seen(0, 0), FULL);
        x.keep();
        x.forget();
        x.back();
        CHECK.due("none is seen", x.count(7), 0);
        CHECK.due("one behind back", x.seen(0, 0), 1);
    }

    private static void nothingIsUndoneBehindBack() {
        for (int acts = 0; acts <= 9; acts++) {
            SpoonVotes x = Check.laid("m0,1,60,9;p99,0,0;");
            x.eat(1);
            x.keep();
            for (int k = 0; k < acts; k++) {
                x.eat(1);
            }
            CHECK.due("acts ahead of back", x.count(8), Math.min(8, acts + 1));
            x.back();
            CHECK.due("acts behind back", x.count(8), 0);
            CHECK.due("undo behind back", x.undo(), NO);
            CHECK.due("as kept: eaten", x.count(6), 1);
            x.eat(2);
            CHECK.due("an act behind back", x.count(8), 1);
            CHECK.due("undo of it", x.undo(), 0);
            CHECK.due("as kept again: eaten", x.count(6), 1);
        }
    }

    private static void keepAndBackAreNoActs() {
        SpoonVotes x = Check.laid("m0,1,60,9;p99,0,0;");
        x.keep();
        CHECK.due("keep is no act", x.count(8), 0);
        CHECK.due("undo of keep", x.undo(), NO);
        x.eat(1);
        x.keep();
        CHECK.due("keep takes no act away", x.count(8), 1);
        CHECK.due("undo of the act before", x.undo(), 0);
        CHECK.due("undone: eaten", x.count(6), 0);
        x.back();
        CHECK.due("back is no act", x.count(8), 0);
        CHECK.due("undo of back", x.undo(), NO);
        CHECK.due("as kept: eaten", x.count(6), 1);
        x.eat(1);
        x.back();
        x.back();
        CHECK.due("back that is NO is no act", x.count(8), 0);
        x.eat(1);
        CHECK.due("back to none", x.back(), NO);
        CHECK.due("back that is NO takes no act away", x.count(8), 1);
    }

    private static void keptAtTheNinthAct() {
        SpoonVotes x = Check.laid("m0,1,60,9;p99,0,0;");
        x.keep();
        for (int k = 0; k < 9; k++) {
            x.eat(1);
        }
        x.keep();
        for (int k = 0; k < 8; k++) {
            x.eat(1);
        }
        for (int left = 7; left >= 0; left--) {
            CHECK.due("undo to " + left, x.undo(), left);
        }
        CHECK.due("eight undone: eaten", x.count(6), 9);
        x.eat(20);
        CHECK.due("back to the ninth", x.back(), 1);
        CHECK.due("as kept at the ninth", x.count(6), 9);
        CHECK.due("back to the first", x.back(), 0);
        CHECK.due("as kept at first", x.count(6), 0);
    }

    private static void undoDoesNotTouchWhatIsKept() {
        SpoonVotes x = Check.laid("m0,1,60,9;p99,0,0;");
        x.eat(5);
        x.keep();
        x.undo();
        CHECK.due("undone", x.count(6), 0);
        CHECK.due("one is kept", x.count(9), 1);
        x.salt();
        CHECK.due("back", x.back(), 0);
        CHECK.due("as kept: eaten", x.count(6), 5);
        CHECK.due("as kept: salt", x.count(3), 0);
    }

    private static void countsAtTheLeast() {
        SpoonVotes x = Check.laid("m0,1,0,0;p0,0,0;r1;f1;");
        x.wipe();
        int[] counts = {1, 0, 0, 0, 1, 0, 0, 0, 0, 0, 0};
        for (int what = 0; what < counts.length; what++) {
            CHECK.due("the least: count " + what, x.count(what), counts[what]);
        }
    }

    private static void countsAtTheGreatest() {
        SpoonVotes x = Check.laid("m0,9,60,9;".repeat(7) + "p99,9,9;r20;f20;" + "r20;".repeat(28));
        for (int k = 0; k < 9; k++) {
            x.trade(0, 1);
            x.seen(0, 0);
            x.keep();
        }
        for (int k = 0; k < 20; k++) {
            x.write(' ');
        }
        int[] counts = {7, 99, 9, 9, 20, 420, 0, 6, 8, 2, 200};
        for (int what = 0; what < counts.length; what++) {
            CHECK.due("the greatest: count " + what, x.count(what), counts[what]);
        }
    }

    private static void countOfEachNumberAlone() {
        int[][] pots = {{0, 9, 9}, {99, 0, 9}, {99, 9, 0}, {1, 8, 5}, {98, 1, 8}};
        for (int[] pot : pots) {
            SpoonVotes x = Check.laid("m0,1,60,9;p" + pot[0] + "," + pot[1] + "," + pot[2] + ";");
            for (int k = 0; k < 3; k++) {
                CHECK.due("pot: count " + (k + 1), x.count(k + 1), pot[k]);
            }
        }
        for (int rounds = 1; rounds <= 20; rounds++) {
            CHECK.due("R", Check.laid("m0,1,60,9;r" + rounds + ";").count(4), rounds);
        }
        for (int many = 0; many <= 200; many++) {
            CHECK.due("letters", Check.written("7".repeat(many)).count(10), many);
        }
    }

    private static void countOfWhatIsEaten() {
        SpoonVotes x = Check.laid("m0,9,60,9;m0,9,60,9;p99,0,0;f20;");
        CHECK.due("all of 99", x.eat(6), 99);
        CHECK.due("eaten 99", x.count(6), 99);
        x.cook(99);
        x.fast();
        CHECK.due("of 99 again", x.eat(20), 61);
        CHECK.due("eaten more than ever was in the pot", x.count(6), 160);
        CHECK.due("eaten by one, more than his hunger ever was", x.member(0, 4), 54 + 26);
        x.keep();
        x.eat(1);
        x.undo();
        x.undo();
        CHECK.due("what is undone is none", x.count(6), 99);
        CHECK.due("what is undone is none of his", x.member(0, 4), 54);
        x.back();
        CHECK.due("eaten as kept", x.count(6), 160);
        CHECK.due("undo of what was ahead", x.undo(), NO);
        CHECK.due("no scraper", x.scraper(), NONE);
    }

    private static void countOfWhatThereIsNot() {
        SpoonVotes x = new SpoonVotes();
        int[] bad = {-1, -2, 11, 12, 256, Integer.MIN_VALUE, Integer.MAX_VALUE};
        for (int what : bad) {
            CHECK.due("count " + what, x.count(what), BAD);
        }
        CHECK.due("count 0", x.count(0), 5);
        CHECK.due("count 10", x.count(10), 0);
    }
}
