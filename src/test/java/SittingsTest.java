/** Promises 1 to 6: a new object, the text and what it lays. */
public final class SittingsTest {
    private static final int BAD = -1, NO = -2, FULL = -3, NONE = -4;
    private static final Check CHECK = new Check();

    public static void main(String[] args) {
        promise1NewObject();
        promise2Write();
        promise3Wipe();
        promise4FaultOfMembers();
        promise4FaultOfOtherItems();
        promise4FaultOfForm();
        promise5Lay();
        promise5LayForgetsAll();
        promise5LayRefuses();
        promise5LayFewerOrMore();
        promise6Member();
        promise6WouldEatFirstOfAll();
        CHECK.finish("sittings");
    }

    private static void promise1NewObject() {
        SpoonVotes x = new SpoonVotes();
        int[] counts = {5, 40, 6, 2, 5, 79, 0, 0, 0, 0, 0};
        for (int what = 0; what < counts.length; what++) {
            CHECK.due("new: count " + what, x.count(what), counts[what]);
        }
        int[][] members = {{0, 3, 12, 6}, {1, 4, 20, 3}, {2, 2, 9, 5}, {3, 5, 30, 9}, {0, 1, 8, 2}};
        for (int i = 0; i < members.length; i++) {
            for (int what = 0; what < 4; what++) {
                CHECK.due("new: member " + i + ", " + what, x.member(i, what), members[i][what]);
            }
        }
        CHECK.due("new: fast by 6", x.fast(), 79 + 5 * 6);
        CHECK.due("new: wipe", new SpoonVotes().wipe(), 0);
        CHECK.due("new: fault", new SpoonVotes().fault(), NONE);
        CHECK.due("new: lay", new SpoonVotes().lay(), NO);
    }

    private static void promise2Write() {
        SpoonVotes x = new SpoonVotes();
        int[] noLetters = {31, 127, 0, -1, 65536 + 'm', Integer.MIN_VALUE, Integer.MAX_VALUE};
        for (int letter : noLetters) {
            CHECK.due("write " + letter, x.write(letter), BAD);
        }
        CHECK.due("write: length after BAD", x.count(10), 0);
        CHECK.due("write the lowest", x.write(32), 1);
        CHECK.due("write the highest", x.write(126), 2);
        for (int length = 3; length <= 200; length++) {
            CHECK.due("write as letter " + length, x.write('m'), length);
        }
        CHECK.due("write letter 201", x.write('m'), FULL);
        CHECK.due("write: BAD is before FULL", x.write(31), BAD);
        CHECK.due("write: length when FULL", x.count(10), 200);
        CHECK.due("write: it is still what was laid", x.count(0), 5);
    }

    private static void promise3Wipe() {
        SpoonVotes x = Check.written("m0,1,2,3;");
        CHECK.due("wipe", x.wipe(), 9);
        CHECK.due("wipe: length", x.count(10), 0);
        CHECK.due("wipe: again", x.wipe(), 0);
        CHECK.due("wipe: no fault in nothing", x.fault(), NONE);
        CHECK.due("wipe: nothing to lay", x.lay(), NO);
        CHECK.due("wipe: write from the start", x.write('r'), 1);
    }

    private static void fault(String text, int due) {
        CHECK.due("fault of " + text, Check.written(text).fault(), due);
    }

    private static void promise4FaultOfMembers() {
        fault("m0,1,0,0;", NONE);
        fault("m3,9,60,9;", NONE);
        fault("m03,09,60,09;", NONE);
        fault("m4,1,0,0;", 0);
        fault("m0,0,0,0;", 0);
        fault("m0,10,0,0;", 0);
        fault("m0,1,61,0;", 0);
        fault("m0,1,0,10;", 0);
        fault("m0,1,0;", 0);
        fault("m0,1,0,0,0;", 0);
        fault("m0,1,0,000;", 0);
        fault("m000,1,0,0;", 0);
        String seven = "m0,1,0,0;m0,1,0,0;m0,1,0,0;m0,1,0,0;m0,1,0,0;m0,1,0,0;m0,1,0,0;";
        fault(seven, NONE);
        fault(seven + "r5;", NONE);
        fault(seven + "m0,1,0,0;", 63);
        fault(seven + "r5;m0,1,0,0;", 66);
    }

    private static void promise4FaultOfOtherItems() {
        fault("p0,0,0;", NONE);
        fault("p99,9,9;", NONE);
        fault("p1,10,0;", 0);
        fault("p1,0,10;", 0);
        fault("p1,0;", 0);
        fault("p1;", 0);
        fault("p1,0,0,0;", 0);
        fault("p100,0,0;", 0);
        fault("r1;", NONE);
        fault("r20;", NONE);
        fault("r0;", 0);
        fault("r21;", 0);
        fault("r1,1;", 0);
        fault("f1;f20;f05;", NONE);
        fault("f0;", 0);
        fault("f21;", 0);
        fault("f1,1;", 0);
        fault("f1;r0;p1,10,0;", 3);
        fault("r0;r5;", 0);
    }

    private static void promise4FaultOfForm() {
        fault("", NONE);
        fault(" ", 0);
        fault(";", 0);
        fault("m", 0);
        fault("r", 0);
        fault("r;", 0);
        fault("r5", 0);
        fault("r5,", 0);
        fault("r5,;", 0);
        fault("r,5;", 0);
        fault("r5;;", 3);
        fault("r5; r5;", 3);
        fault("r 5;", 0);
        fault("r5 ;", 0);
        fault("r-5;", 0);
        fault("r5;x", 3);
        fault("x5;", 0);
        fault("R5;", 0);
        fault("5;", 0);
        fault("m0;1;0;0;", 0);
        fault("m0,,0,0;", 0);
        fault("r5:", 0);
        fault("r/;", 0);
        fault("r:;", 0);
        fault("r5;f6;p1,2,3;m0,1,2,3", 13);
        String many = "r5;".repeat(66);
        fault(many + "r5", 198);
        fault(many, NONE);
        SpoonVotes wiped = Check.written("r5;f6;");
        wiped.wipe();
        Check.write(wiped, "r5");
        CHECK.due("fault of what is not wiped alone", wiped.fault(), 0);
        SpoonVotes x = Check.written("r5;f");
        CHECK.due("fault stays", x.fault(), 3);
        CHECK.due("fault takes nothing", x.count(10), 4);
        CHECK.due("fault lays nothing", x.count(0), 5);
    }

    private static void promise5Lay() {
        SpoonVotes x = Check.written("m1,2,3,4;");
        CHECK.due("lay", x.lay(), 1);
        int[] counts = {1, 30, 4, 1, 5, 3, 0, 0, 0, 0, 9};
        for (int what = 0; what < counts.length; what++) {
            CHECK.due("laid: count " + what, x.count(what), counts[what]);
        }
        CHECK.due("laid: fast by 6", x.fast(), 9);
        CHECK.due("lay again: the text stays", x.lay(), 1);
        CHECK.due("lay again: hunger", x.count(5), 3);
        SpoonVotes y = Check.written("p1,2,3;r4;f5;m0,9,9,9;f7;r8;p9,8,7;m3,1,60,0;r20;r6;");
        CHECK.due("lay, the last counts", y.lay(), 2);
        CHECK.due("the last pot: how much", y.count(1), 9);
        CHECK.due("the last pot: heat", y.count(2), 8);
        CHECK.due("the last pot: salt", y.count(3), 7);
        CHECK.due("the last rounds", y.count(4), 6);
        CHECK.due("the last fast", y.fast(), 9 + 7 + 60);
        CHECK.due("lay 7", Check.written("m0,1,1,1;".repeat(7)).lay(), 7);
    }

    private static void promise5LayForgetsAll() {
        SpoonVotes x = Check.laid("m0,2,9,9;m0,3,9,9;");
        x.eat(1);
        x.seen(0, 2);
        x.keep();
        CHECK.due("before lay: left", x.left(1), 20);
        CHECK.due("before lay: eaten", x.count(6), 5);
        CHECK.due("lay", x.lay(), 2);
        for (int what = 6; what <= 9; what++) {
            CHECK.due("behind lay: count " + what, x.count(what), 0);
        }
        CHECK.due("behind lay: pot", x.count(1), 30);
        CHECK.due("behind lay: eaten by 0", x.member(0, 4), 0);
        CHECK.due("behind lay: eaten by 1", x.member(1, 4), 0);
        CHECK.due("behind lay: undo", x.undo(), NO);
        CHECK.due("behind lay: back", x.back(), NO);
    }

    private static void promise5LayRefuses() {
        String[] none = {"", "r5;", "p1,2,3;f4;", "m0,1,2,3", "m0,1,2,3;r0;", "x"};
        for (String text : none) {
            SpoonVotes x = new SpoonVotes();
            x.eat(1);
            x.seen(1, 1);
            x.keep();
            Check.write(x, text);
            CHECK.due("lay of " + text, x.lay(), NO);
            int[] counts = {5, 31, 5, 2, 5, 70, 9, 1, 1, 1, text.length()};
            for (int what = 0; what < counts.length; what++) {
                CHECK.due("not laid " + text + ": count " + what, x.count(what), counts[what]);
            }
        }
    }

    private static void promise5LayFewerOrMore() {
        SpoonVotes x = Check.laid("m0,1,60,9;p4,0,0;");
        CHECK.due("one alone: eaten", x.eat(1), 1);
        CHECK.due("one alone: hunger", x.fast(), 60);
        CHECK.due("one alone: passes", x.passes(), 3);
        CHECK.due("one alone: cabal", x.cabal(1), 1);
        x.wipe();
        Check.write(x, "m0,1,50,9;".repeat(7));
        CHECK.due("lay seven", x.lay(), 7);
        CHECK.due("seven: eaten", x.eat(2), 14);
        CHECK.due("seven: eaten by the last", x.member(6, 4), 2);
        CHECK.due("seven: hunger", x.fast(), 7 * 54);
        CHECK.due("seven: passes", x.passes(), 3);
        CHECK.due("seven: scraper", x.scraper(), 1);
        CHECK.due("seven: trade", x.trade(6, 0), 1);
        CHECK.due("seven: cabal", x.cabal(1), 15);
        CHECK.due("seven: likely", x.likely(10, 0), 1);
        CHECK.due("no eighth", x.member(7, 0), BAD);
    }

    private static void promise6Member() {
        SpoonVotes x = Check.laid("m2,3,7,8;m1,9,60,4;");
        int[][] members = {{2, 3, 7, 8, 0, 6}, {1, 9, 60, 4, 0, 9}};
        for (int i = 0; i < members.length; i++) {
            for (int what = 0; what < 6; what++) {
                CHECK.due("member " + i + ", " + what, x.member(i, what), members[i][what]);
            }
        }
        x.eat(1);
        CHECK.due("member: hunger behind a round", x.member(0, 2), 1);
        CHECK.due("member: eaten", x.member(0, 4), 6);
        CHECK.due("member: no more than his hunger", x.member(0, 5), 1);
        x.eat(1);
        CHECK.due("member: eaten in two rounds", x.member(0, 4), 7);
        CHECK.due("member: not hungry", x.member(0, 5), 0);
        int[] noMembers = {-1, 2, 7, Integer.MIN_VALUE, Integer.MAX_VALUE};
        for (int i : noMembers) {
            CHECK.due("member " + i, x.member(i, 0), BAD);
        }
        int[] nothing = {-1, 6, Integer.MIN_VALUE, Integer.MAX_VALUE};
        for (int what : nothing) {
            CHECK.due("member 0, " + what, x.member(0, what), BAD);
        }
    }

    private static void promise6WouldEatFirstOfAll() {
        // By kind: the highest heat at which he eats, and how much.
        int[] highest = {9, 4, 7, 8};
        int[] much = {5, 5, 10, 1};
        for (int kind = 0; kind < 4; kind++) {
            for (int heat = 0; heat <= 9; heat++) {
                SpoonVotes x = Check.laid("m0,9,60,9;m" + kind + ",5,20,3;p50," + heat + ",3;");
                CHECK.due("kind " + kind + " at heat " + heat, x.member(1, 5),
                        heat <= highest[kind] ? much[kind] : 0);
            }
            SpoonVotes salter = Check.laid("m" + kind + ",5,20,3;p50,0,4;");
            CHECK.due("kind " + kind + " where it is too salt", salter.member(0, 5), 0);
            SpoonVotes empty = Check.laid("m" + kind + ",5,20,3;p0,0,0;");
            CHECK.due("kind " + kind + " from an empty pot", empty.member(0, 5), 0);
            SpoonVotes satisfied = Check.laid("m" + kind + ",5,0,3;p50,0,0;");
            CHECK.due("kind " + kind + " without hunger", satisfied.member(0, 5), 0);
        }
        SpoonVotes scarce = Check.laid("m0,9,60,9;m2,5,60,9;p4,0,0;");
        CHECK.due("as if he were the first: 0", scarce.member(0, 5), 4);
        CHECK.due("as if he were the first: 1", scarce.member(1, 5), 4);
    }
}
