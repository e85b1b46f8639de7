/** Promises 7 to 13: rounds eaten, salt, cooked, waited, exchanged, fasted, undone. */
public final class ActsTest {
    private static final int BAD = -1, NO = -2;
    private static final Check CHECK = new Check();

    public static void main(String[] args) {
        promise7Eat();
        promise7EatInOrder();
        promise7EatBad();
        promise8Salt();
        promise9Cook();
        promise10Cool();
        promise11Trade();
        promise12Fast();
        promise13Undo();
        promise13TheLastEight();
        promise13WhatIsRefusedIsNoAct();
        promise13ActsThatChangeNothing();
        CHECK.finish("acts");
    }

    private static void state(String when, SpoonVotes x, int pot, int heat, int salt, int hunger, int eaten) {
        CHECK.due(when + ": pot", x.count(1), pot);
        CHECK.due(when + ": heat", x.count(2), heat);
        CHECK.due(when + ": salt", x.count(3), salt);
        CHECK.due(when + ": hunger", x.count(5), hunger);
        CHECK.due(when + ": eaten", x.count(6), eaten);
    }

    private static void promise7Eat() {
        SpoonVotes x = new SpoonVotes();
        // At heat 6: the wooden one 3, the silver one nothing, the ladle 4, the licker 1, the last 1.
        CHECK.due("eat 1", x.eat(1), 9);
        state("behind eat 1", x, 31, 5, 2, 70, 9);
        // At 5 the same; at 4 the silver one 4, and the ladle has but 1 hunger left.
        CHECK.due("eat 2", x.eat(2), 19);
        state("behind eat 2", x, 12, 3, 2, 51, 28);
        int[] eaten = {9, 4, 9, 3, 3};
        for (int i = 0; i < eaten.length; i++) {
            CHECK.due("eaten by " + i, x.member(i, 4), eaten[i]);
        }
        CHECK.due("eat 20", x.eat(20), 12);
        state("behind eat 20", x, 0, 0, 2, 39, 40);
        CHECK.due("eat of an empty pot", x.eat(1), 0);
        SpoonVotes hot = Check.laid("m0,1,60,9;p99,9,0;");
        CHECK.due("eat 20 by one", hot.eat(20), 20);
        state("by one", hot, 79, 0, 0, 40, 20);
        SpoonVotes empty = Check.laid("m0,1,60,9;p0,9,0;");
        CHECK.due("a round of an empty pot", empty.eat(1), 0);
        CHECK.due("it cools all the same", empty.count(2), 8);
    }

    private static void promise7EatInOrder() {
        SpoonVotes x = Check.laid("m0,3,9,9;m2,2,9,9;m3,9,9,9;p8,0,0;");
        CHECK.due("two rounds", x.eat(2), 8);
        CHECK.due("all for 0", x.member(0, 4), 3);
        CHECK.due("twice S for 1", x.member(1, 4), 4);
        CHECK.due("1 for 2", x.member(2, 4), 1);
        SpoonVotes scarce = Check.laid("m0,3,9,9;m0,3,9,9;m0,3,9,9;p4,0,0;");
        CHECK.due("a scarce round", scarce.eat(1), 4);
        CHECK.due("scarce: the first", scarce.member(0, 4), 3);
        CHECK.due("scarce: the second", scarce.member(1, 4), 1);
        CHECK.due("scarce: the third", scarce.member(2, 4), 0);
        SpoonVotes salt = Check.laid("m0,3,9,4;m0,3,9,5;p50,0,5;");
        CHECK.due("too salt for one", salt.eat(1), 3);
        CHECK.due("who bears as much as there is eats", salt.member(1, 4), 3);
    }

    private static void promise7EatBad() {
        SpoonVotes x = new SpoonVotes();
        int[] bad = {0, -1, 21, Integer.MIN_VALUE, Integer.MAX_VALUE};
        for (int n : bad) {
            CHECK.due("eat " + n, x.eat(n), BAD);
        }
        state("behind bad rounds", x, 40, 6, 2, 79, 0);
        CHECK.due("bad rounds are no act", x.count(8), 0);
    }

    private static void promise8Salt() {
        SpoonVotes x = Check.laid("m0,1,9,9;p10,0,7;");
        CHECK.due("salt to 8", x.salt(), 8);
        CHECK.due("salt to 9", x.salt(), 9);
        CHECK.due("salt at 9", x.salt(), NO);
        state("behind salt", x, 10, 0, 9, 9, 0);
        CHECK.due("salt: acts", x.count(8), 2);
    }

    private static void promise9Cook() {
        SpoonVotes x = Check.laid("m0,1,9,9;p50,3,4;");
        int[] bad = {0, -1, 100, Integer.MIN_VALUE, Integer.MAX_VALUE};
        for (int a : bad) {
            CHECK.due("cook " + a, x.cook(a), BAD);
        }
        CHECK.due("cook less", x.cook(1), NO);
        CHECK.due("cook no more", x.cook(50), NO);
        state("not cooked", x, 50, 3, 4, 9, 0);
        CHECK.due("cook one more", x.cook(51), 51);
        state("cooked", x, 51, 9, 4, 9, 0);
        CHECK.due("cook the most", x.cook(99), 99);
        CHECK.due("cook when all is full", x.cook(99), NO);
        CHECK.due("cook: acts", x.count(8), 2);
        CHECK.due("cook in an empty pot", Check.laid("m0,1,9,9;p0,3,4;").cook(1), 1);
    }

    private static void promise10Cool() {
        SpoonVotes x = Check.laid("m0,1,9,9;p10,2,3;");
        CHECK.due("cool to 1", x.cool(), 1);
        CHECK.due("cool to 0", x.cool(), 0);
        CHECK.due("cool at 0", x.cool(), NO);
        state("cooled", x, 10, 0, 3, 9, 0);
        CHECK.due("cool: acts", x.count(8), 2);
    }

    private static void promise11Trade() {
        SpoonVotes x = new SpoonVotes();
        CHECK.due("trade: S of the first then", x.trade(1, 3), 5);
        int[][] due = {{1, 3, 5, 20, 3}, {3, 1, 4, 30, 9}};
        for (int[] row : due) {
            for (int what = 0; what < 4; what++) {
                CHECK.due("traded: member " + row[0] + ", " + what, x.member(row[0], what), row[what + 1]);
            }
        }
        CHECK.due("trade the other way round", x.trade(4, 2), 2);
        CHECK.due("a ladle for 4", x.member(4, 0), 2);
        CHECK.due("a wooden one for 2", x.member(2, 0), 0);
        CHECK.due("trade: eaten stays", eatenBehindTrade(), 3);
        int[][] bad = {{0, 0}, {4, 4}, {0, 5}, {5, 0}, {-1, 0}, {0, -1}, {7, 8},
            {Integer.MIN_VALUE, 0}, {0, Integer.MAX_VALUE}};
        for (int[] pair : bad) {
            CHECK.due("trade " + pair[0] + ", " + pair[1], x.trade(pair[0], pair[1]), BAD);
        }
        CHECK.due("trade: acts", x.count(8), 2);
        state("traded", x, 40, 6, 2, 79, 0);
    }

    private static int eatenBehindTrade() {
        SpoonVotes x = new SpoonVotes();
        x.eat(1);
        x.trade(0, 1);
        return x.member(0, 4);
    }

    private static void promise12Fast() {
        SpoonVotes x = Check.laid("m0,1,3,9;m1,2,50,9;m2,3,55,9;m3,1,60,9;p10,7,3;f6;");
        CHECK.due("fast", x.fast(), 9 + 56 + 60 + 60);
        state("fasted", x, 10, 0, 3, 185, 0);
        CHECK.due("one is hungrier by 6", x.member(0, 2), 9);
        CHECK.due("no more than 60", x.member(2, 2), 60);
        CHECK.due("fast by 20", Check.laid("m0,1,0,0;f20;").fast(), 20);
        CHECK.due("fast by 1", Check.laid("m0,1,0,0;f1;").fast(), 1);
    }

    private static void promise13Undo() {
        SpoonVotes x = new SpoonVotes();
        CHECK.due("nothing to undo", x.undo(), NO);
        x.eat(3);
        x.salt();
        x.cook(50);
        x.cool();
        x.trade(0, 3);
        x.fast();
        state("before undo", x, 50, 0, 3, 81, 28);
        CHECK.due("undo the fast", x.undo(), 5);
        state("not fasted", x, 50, 8, 3, 51, 28);
        CHECK.due("undo the trade", x.undo(), 4);
        CHECK.due("not traded", x.member(0, 0), 0);
        CHECK.due("not traded: S", x.member(3, 1), 5);
        CHECK.due("undo the wait", x.undo(), 3);
        state("not waited", x, 50, 9, 3, 51, 28);
        CHECK.due("undo the cooking", x.undo(), 2);
        state("not cooked", x, 12, 3, 3, 51, 28);
        CHECK.due("undo the salt", x.undo(), 1);
        state("not salted", x, 12, 3, 2, 51, 28);
        CHECK.due("undo three rounds at once", x.undo(), 0);
        state("not eaten", x, 40, 6, 2, 79, 0);
        CHECK.due("not eaten by 1", x.member(1, 4), 0);
        CHECK.due("undo no more", x.undo(), NO);
    }

    private static void promise13TheLastEight() {
        SpoonVotes x = Check.laid("m0,1,60,9;p99,0,0;");
        int[] eaten = new int[12];
        for (int n = 1; n <= 11; n++) {
            eaten[n] = eaten[n - 1] + x.eat(n % 2 + 1);
            CHECK.due("acts " + n, x.count(8), Math.min(n, 8));
        }
        CHECK.due("eaten by eleven acts", x.count(6), 17);
        for (int left = 7; left >= 0; left--) {
            CHECK.due("undo to " + left, x.undo(), left);
            CHECK.due("undone to " + left + ": eaten", x.count(6), eaten[left + 3]);
        }
        CHECK.due("the first three stay", x.count(6), 5);
        CHECK.due("undo a ninth", x.undo(), NO);
        x.eat(1);
        CHECK.due("undo one more act", x.undo(), 0);
        CHECK.due("as before", x.count(6), 5);
    }

    private static void promise13WhatIsRefusedIsNoAct() {
        SpoonVotes x = Check.laid("m0,1,6,9;m0,1,6,9;p10,0,9;");
        x.salt();
        x.cool();
        x.cook(10);
        x.cook(100);
        x.trade(0, 0);
        x.eat(0);
        CHECK.due("nothing was done", x.undo(), NO);
    }

    private static void promise13ActsThatChangeNothing() {
        SpoonVotes x = Check.laid("m0,1,60,0;m0,1,60,0;p10,0,9;");
        CHECK.due("nobody eats", x.eat(5), 0);
        CHECK.due("a fast by which nothing changes", x.fast(), 120);
        CHECK.due("a trade of what is alike", x.trade(0, 1), 1);
        CHECK.due("all are acts", x.count(8), 3);
        CHECK.due("undo the trade", x.undo(), 2);
        CHECK.due("undo the fast", x.undo(), 1);
        CHECK.due("undo the rounds", x.undo(), 0);
    }
}
