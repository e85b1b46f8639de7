/** Promises 29 to 31: sittings kept, and how many there are of all. */
public final class KeptTest {
    private static final int BAD = -1, NO = -2, FULL = -3;
    private static final Check CHECK = new Check();

    public static void main(String[] args) {
        promise29Keep();
        promise30Back();
        promise30BackToAllThatStood();
        promise30NotTheTextNorWhatIsSeen();
        promise30NothingIsUndoneThen();
        promise31Count();
        CHECK.finish("kept");
    }

    private static void promise29Keep() {
        SpoonVotes x = new SpoonVotes();
        CHECK.due("keep", x.keep(), 1);
        CHECK.due("keep the same again", x.keep(), 2);
        CHECK.due("keep a third", x.keep(), FULL);
        CHECK.due("kept", x.count(9), 2);
        CHECK.due("keep is no act", x.count(8), 0);
        x.back();
        CHECK.due("keep again behind back", x.keep(), 2);
        SpoonVotes y = new SpoonVotes();
        y.eat(1);
        y.keep();
        CHECK.due("undo goes on behind keep", y.undo(), 0);
        CHECK.due("what is undone is kept all the same", y.count(9), 1);
        y.back();
        CHECK.due("as kept: eaten", y.count(6), 9);
    }

    private static void promise30Back() {
        SpoonVotes x = new SpoonVotes();
        CHECK.due("back to nothing", x.back(), NO);
        x.keep();
        x.eat(1);
        x.keep();
        x.eat(1);
        CHECK.due("refused", x.keep(), FULL);
        CHECK.due("back to the latest", x.back(), 1);
        CHECK.due("the latest: pot", x.count(1), 31);
        CHECK.due("the latest: eaten", x.count(6), 9);
        x.eat(2);
        CHECK.due("back to the first", x.back(), 0);
        CHECK.due("the first: pot", x.count(1), 40);
        CHECK.due("the first: eaten", x.count(6), 0);
        CHECK.due("back to no more", x.back(), NO);
        CHECK.due("nothing changes then", x.count(1), 40);
    }

    private static void promise30BackToAllThatStood() {
        SpoonVotes x = new SpoonVotes();
        x.eat(3);
        x.trade(0, 1);
        x.keep();
        x.salt();
        x.cook(77);
        x.trade(2, 3);
        x.trade(0, 4);
        x.fast();
        x.eat(5);
        CHECK.due("back", x.back(), 0);
        int[] counts = {5, 12, 3, 2, 5, 51, 28};
        for (int what = 0; what < counts.length; what++) {
            CHECK.due("as kept: count " + what, x.count(what), counts[what]);
        }
        int[][] members = {{1, 4, 3, 6, 9, 3}, {0, 3, 16, 3, 4, 3}, {2, 2, 0, 5, 9, 0}, {3, 5, 27, 9, 3, 1},
            {0, 1, 5, 2, 3, 1}};
        for (int i = 0; i < members.length; i++) {
            for (int what = 0; what < 6; what++) {
                CHECK.due("as kept: member " + i + ", " + what, x.member(i, what), members[i][what]);
            }
        }
    }

    private static void promise30NotTheTextNorWhatIsSeen() {
        SpoonVotes x = Check.written("r5;");
        x.seen(0, 3);
        x.keep();
        x.seen(1, 0);
        x.write('f');
        x.back();
        CHECK.due("what is seen stays", x.count(7), 2);
        CHECK.due("the text stays", x.count(10), 4);
        CHECK.due("its fault stays", x.fault(), 3);
        x.keep();
        x.forget();
        x.wipe();
        x.back();
        CHECK.due("what is forgotten stays so", x.count(7), 0);
        CHECK.due("what is wiped stays so", x.count(10), 0);
    }

    private static void promise30NothingIsUndoneThen() {
        SpoonVotes x = new SpoonVotes();
        x.eat(1);
        x.keep();
        x.eat(1);
        x.salt();
        CHECK.due("three acts", x.count(8), 3);
        x.back();
        CHECK.due("no act behind back", x.count(8), 0);
        CHECK.due("undo behind back", x.undo(), NO);
        CHECK.due("as kept", x.count(6), 9);
        x.salt();
        CHECK.due("undo what comes behind back", x.undo(), 0);
        SpoonVotes y = new SpoonVotes();
        y.eat(1);
        y.back();
        CHECK.due("back that is refused leaves the acts", y.count(8), 1);
    }

    private static void promise31Count() {
        SpoonVotes x = Check.laid("m0,3,12,6;m1,4,20,3;p40,6,2;r7;");
        x.eat(1);
        x.salt();
        x.seen(0, 1);
        x.seen(0, 2);
        x.seen(1, 2);
        x.keep();
        int[] counts = {2, 37, 5, 3, 7, 29, 3, 3, 2, 1, 31};
        for (int what = 0; what < counts.length; what++) {
            CHECK.due("count " + what, x.count(what), counts[what]);
        }
        x.undo();
        x.undo();
        CHECK.due("what is undone is not eaten", x.count(6), 0);
        int[] bad = {-1, 11, Integer.MIN_VALUE, Integer.MAX_VALUE};
        for (int what : bad) {
            CHECK.due("count " + what, x.count(what), BAD);
        }
    }
}
