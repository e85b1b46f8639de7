/**
 * The bounds of ROUNDS and of the other acts, promises 7 to 13: a test for each sentence that names
 * one, at the bound, below it and above it.
 */
public final class BoundsOfActsTest {
    private static final int BAD = -1, NO = -2, NONE = -4;
    private static final Check CHECK = new Check();

    public static void main(String[] args) {
        eachEatsAsMuchAsHisSpoon();
        noMoreThanHisHunger();
        noMoreThanThereIs();
        firstIsServedFirst();
        woodenAtAnyHeat();
        silverNotAbove4();
        ladleTwiceAndNotAbove7();
        lickerOneAndNotAbove8();
        nobodyWhereItIsTooSalt();
        heatIsOneLessAndNotBelow0();
        heatOfARoundIsTheSameForAll();
        eatIsOf1To20Rounds();
        eatOfAnEmptyPot();
        saltIs9AtMost();
        cookedToNoMoreThanThereIs();
        cookedFrom1To99();
        cookedIsHeat9();
        waitNotBelow0();
        tradeOfTheFirstAndTheLast();
        tradeOfOneWithHimself();
        tradeOfSpoonsAlone();
        fastToNoMoreThan60();
        fastBy1And20();
        fastIsHeat0();
        undoOfNoneOneAndEight();
        ninthActLosesTheFirst();
        undoOfEachActAlone();
        undoOfActsByWhichNothingChanges();
        undoneIsNoAct();
        CHECK.finish("bounds of acts");
    }

    /** What is eaten in one round by one, and what each of his numbers is behind it. */
    private static void eats(String member, String pot, int due) {
        SpoonVotes x = Check.laid(member + pot);
        String what = member + pot;
        int hunger = x.member(0, 2);
        int amount = x.count(1);
        CHECK.due("would eat: " + what, x.member(0, 5), due);
        CHECK.due("eats: " + what, x.eat(1), due);
        CHECK.due("has eaten: " + what, x.member(0, 4), due);
        CHECK.due("is less hungry: " + what, x.member(0, 2), hunger - due);
        CHECK.due("is in the pot: " + what, x.count(1), amount - due);
        CHECK.due("eaten in all: " + what, x.count(6), due);
    }

    private static void eachEatsAsMuchAsHisSpoon() {
        for (int spoon = 1; spoon <= 9; spoon++) {
            eats("m0," + spoon + ",60,9;", "p99,0,0;", spoon);
            eats("m1," + spoon + ",60,9;", "p99,0,0;", spoon);
            eats("m2," + spoon + ",60,9;", "p99,0,0;", 2 * spoon);
            eats("m3," + spoon + ",60,9;", "p99,0,0;", 1);
        }
    }

    private static void noMoreThanHisHunger() {
        int[][] hungerAndDue = {{0, 0}, {1, 1}, {4, 4}, {5, 5}, {6, 5}, {60, 5}};
        for (int[] row : hungerAndDue) {
            eats("m0,5," + row[0] + ",9;", "p99,0,0;", row[1]);
            eats("m1,5," + row[0] + ",9;", "p99,0,0;", row[1]);
        }
        int[][] ofLadle = {{0, 0}, {1, 1}, {9, 9}, {10, 10}, {11, 10}, {60, 10}};
        for (int[] row : ofLadle) {
            eats("m2,5," + row[0] + ",9;", "p99,0,0;", row[1]);
        }
        int[][] ofLicker = {{0, 0}, {1, 1}, {2, 1}, {60, 1}};
        for (int[] row : ofLicker) {
            eats("m3,5," + row[0] + ",9;", "p99,0,0;", row[1]);
        }
        SpoonVotes x = Check.laid("m0,5,11,9;p99,0,0;");
        CHECK.due("hunger 11: 5", x.eat(1), 5);
        CHECK.due("hunger 6: 5", x.eat(1), 5);
        CHECK.due("hunger 1: 1", x.eat(1), 1);
        CHECK.due("hunger 0: nothing", x.eat(1), 0);
        CHECK.due("no hunger below 0", x.member(0, 2), 0);
    }

    private static void noMoreThanThereIs() {
        int[][] potAndDue = {{0, 0}, {1, 1}, {4, 4}, {5, 5}, {6, 5}, {99, 5}};
        for (int[] row : potAndDue) {
            eats("m0,5,60,9;", "p" + row[0] + ",0,0;", row[1]);
            eats("m1,5,60,9;", "p" + row[0] + ",0,0;", row[1]);
        }
        int[][] ofLadle = {{0, 0}, {1, 1}, {9, 9}, {10, 10}, {11, 10}, {99, 10}};
        for (int[] row : ofLadle) {
            eats("m2,5,60,9;", "p" + row[0] + ",0,0;", row[1]);
        }
        int[][] ofLicker = {{0, 0}, {1, 1}, {2, 1}};
        for (int[] row : ofLicker) {
            eats("m3,5,60,9;", "p" + row[0] + ",0,0;", row[1]);
        }
        eats("m0,5,3,9;", "p4,0,0;", 3);
        eats("m0,5,4,9;", "p3,0,0;", 3);
    }

    private static void firstIsServedFirst() {
        int[][] potAndEaten = {{0, 0, 0, 0}, {2, 2, 0, 0}, {3, 3, 0, 0}, {4, 3, 1, 0}, {6, 3, 3, 0}, {7, 3, 4, 0},
            {8, 3, 4, 1}, {11, 3, 4, 4}, {12, 3, 4, 5}, {13, 3, 4, 5}};
        for (int[] row : potAndEaten) {
            SpoonVotes x = Check.laid("m0,3,60,9;m1,4,60,9;m0,5,60,9;p" + row[0] + ",0,0;");
            CHECK.due("a pot of " + row[0], x.eat(1), row[1] + row[2] + row[3]);
            for (int i = 0; i < 3; i++) {
                CHECK.due("a pot of " + row[0] + ": eaten by " + i, x.member(i, 4), row[i + 1]);
            }
        }
        SpoonVotes seven = Check.laid("m0,2,60,9;".repeat(7) + "p13,0,0;");
        CHECK.due("seven of 13", seven.eat(1), 13);
        CHECK.due("the sixth of 13", seven.member(5, 4), 2);
        CHECK.due("the seventh of 13", seven.member(6, 4), 1);
    }

    private static void atHeats(int kind, int highest, int much) {
        for (int heat = 0; heat <= 9; heat++) {
            eats("m" + kind + ",5,60,9;", "p99," + heat + ",0;", heat <= highest ? much : 0);
        }
    }

    private static void woodenAtAnyHeat() {
        atHeats(0, 9, 5);
    }

    private static void silverNotAbove4() {
        atHeats(1, 4, 5);
    }

    private static void ladleTwiceAndNotAbove7() {
        atHeats(2, 7, 10);
        eats("m2,9,18,9;", "p99,7,0;", 18);
        eats("m2,9,17,9;", "p99,7,0;", 17);
        eats("m2,9,19,9;", "p99,7,0;", 18);
        eats("m2,9,60,9;", "p99,8,0;", 0);
    }

    private static void lickerOneAndNotAbove8() {
        atHeats(3, 8, 1);
        SpoonVotes x = Check.laid("m3,9,2,9;p99,0,0;");
        CHECK.due("a licker of hunger 2", x.eat(1), 1);
        CHECK.due("a licker of hunger 1", x.eat(1), 1);
        CHECK.due("a licker of no hunger", x.eat(1), 0);
    }

    private static void nobodyWhereItIsTooSalt() {
        for (int kind = 0; kind < 4; kind++) {
            int much = kind == 2 ? 10 : kind == 3 ? 1 : 5;
            for (int bears = 0; bears <= 9; bears++) {
                for (int salt = 0; salt <= 9; salt++) {
                    eats("m" + kind + ",5,60," + bears + ";", "p99,0," + salt + ";", salt <= bears ? much : 0);
                }
            }
        }
    }

    private static void heatIsOneLessAndNotBelow0() {
        for (int heat = 0; heat <= 9; heat++) {
            SpoonVotes x = Check.laid("m0,1,60,9;p50," + heat + ",0;");
            for (int rounds = 1; rounds <= 11; rounds++) {
                x.eat(1);
                CHECK.due("heat " + heat + " behind " + rounds, x.count(2), Math.max(0, heat - rounds));
            }
            SpoonVotes y = Check.laid("m0,1,60,9;p50," + heat + ",0;");
            y.eat(9);
            CHECK.due("heat " + heat + " behind nine at once", y.count(2), 0);
            SpoonVotes z = Check.laid("m0,1,60,9;p50," + heat + ",0;");
            z.eat(3);
            CHECK.due("heat " + heat + " behind three at once", z.count(2), Math.max(0, heat - 3));
        }
    }

    private static void heatOfARoundIsTheSameForAll() {
        SpoonVotes x = Check.laid("m1,3,60,9;".repeat(7) + "p99,5,0;");
        CHECK.due("none of seven at 5", x.eat(1), 0);
        CHECK.due("all of seven at 4", x.eat(1), 21);
    }

    private static void eatIsOf1To20Rounds() {
        for (int n = 1; n <= 20; n++) {
            SpoonVotes x = Check.laid("m0,1,60,9;p99,9,0;r1;");
            CHECK.due("eat " + n, x.eat(n), n);
            CHECK.due("eat " + n + ": one act", x.count(8), 1);
            CHECK.due("eat " + n + ": R stays", x.count(4), 1);
        }
        int[] bad = {0, -1, 21, 22, 256 + 1, Integer.MIN_VALUE, Integer.MAX_VALUE};
        for (int n : bad) {
            SpoonVotes x = new SpoonVotes();
            CHECK.due("eat " + n, x.eat(n), BAD);
            CHECK.due("eat " + n + ": no act", x.count(8), 0);
            CHECK.due("eat " + n + ": as hot", x.count(2), 6);
        }
    }

    private static void eatOfAnEmptyPot() {
        SpoonVotes x = Check.laid("m0,5,60,9;p0,9,0;");
        CHECK.due("nothing to eat", x.eat(1), 0);
        CHECK.due("as hungry as before", x.member(0, 2), 60);
        CHECK.due("a round it was", x.count(2), 8);
        CHECK.due("an act it was", x.count(8), 1);
        CHECK.due("nothing to eat in 20", x.eat(20), 0);
        CHECK.due("nothing below 0", x.count(1), 0);
        SpoonVotes last = Check.laid("m0,5,60,9;p6,9,0;");
        CHECK.due("20 rounds of 6", last.eat(20), 6);
        CHECK.due("behind 20 rounds of 6", last.count(1), 0);
    }

    private static void saltIs9AtMost() {
        SpoonVotes x = Check.laid("m0,1,9,9;p10,5,0;");
        for (int salt = 1; salt <= 9; salt++) {
            CHECK.due("salt to " + salt, x.salt(), salt);
            CHECK.due("it is as salt as " + salt, x.count(3), salt);
        }
        CHECK.due("salt of 9", x.salt(), NO);
        CHECK.due("as salt as 9", x.count(3), 9);
        CHECK.due("the last eight", x.count(8), 8);
        CHECK.due("at 8", Check.laid("m0,1,9,9;p10,5,8;").salt(), 9);
        CHECK.due("at 9", Check.laid("m0,1,9,9;p10,5,9;").salt(), NO);
        CHECK.due("in an empty pot", Check.laid("m0,1,9,9;p0,0,0;").salt(), 1);
    }

    private static void cookedToNoMoreThanThereIs() {
        int[] amounts = {0, 1, 2, 50, 97, 98, 99};
        for (int amount : amounts) {
            for (int a = 1; a <= 99; a++) {
                SpoonVotes x = Check.laid("m0,1,9,9;p" + amount + ",3,4;");
                String call = "cook " + a + " in a pot of " + amount;
                CHECK.due(call, x.cook(a), a <= amount ? NO : a);
                CHECK.due(call + ": pot", x.count(1), Math.max(a, amount));
                CHECK.due(call + ": heat", x.count(2), a <= amount ? 3 : 9);
                CHECK.due(call + ": acts", x.count(8), a <= amount ? 0 : 1);
            }
        }
    }

    private static void cookedFrom1To99() {
        int[] bad = {0, -1, 100, 101, Integer.MIN_VALUE, Integer.MAX_VALUE};
        for (int a : bad) {
            CHECK.due("cook " + a + " in an empty pot", Check.laid("m0,1,9,9;p0,3,4;").cook(a), BAD);
            CHECK.due("cook " + a + " in a full pot", Check.laid("m0,1,9,9;p99,3,4;").cook(a), BAD);
        }
        SpoonVotes x = Check.laid("m0,1,9,9;p98,3,4;");
        CHECK.due("cook 98 in 98", x.cook(98), NO);
        CHECK.due("cook 99 in 98", x.cook(99), 99);
        CHECK.due("cook 99 in 99", x.cook(99), NO);
        CHECK.due("cook 100 in 99", x.cook(100), BAD);
    }

    private static void cookedIsHeat9() {
        for (int heat = 0; heat <= 9; heat++) {
            SpoonVotes x = Check.laid("m0,1,9,9;p10," + heat + ",4;");
            x.cook(11);
            CHECK.due("cooked at heat " + heat, x.count(2), 9);
            CHECK.due("cooked: as salt", x.count(3), 4);
            CHECK.due("cooked: as hungry", x.count(5), 9);
        }
    }

    private static void waitNotBelow0() {
        for (int heat = 0; heat <= 9; heat++) {
            SpoonVotes x = Check.laid("m0,1,9,9;p10," + heat + ",4;");
            CHECK.due("wait at heat " + heat, x.cool(), heat == 0 ? NO : heat - 1);
            CHECK.due("waited at heat " + heat, x.count(2), Math.max(0, heat - 1));
            CHECK.due("waited at heat " + heat + ": acts", x.count(8), heat == 0 ? 0 : 1);
            CHECK.due("waited: as much", x.count(1), 10);
        }
    }

    private static void tradeOfTheFirstAndTheLast() {
        for (int many = 2; many <= 7; many++) {
            int last = many - 1;
            CHECK.due("0 and the last of " + many, spoonsOf(many).trade(0, last), many);
            CHECK.due("the last of " + many + " and 0", spoonsOf(many).trade(last, 0), 1);
            CHECK.due("the last two of " + many, spoonsOf(many).trade(last - 1, last), many);
            int[] none = {-1, many, 7, Integer.MIN_VALUE, Integer.MAX_VALUE};
            for (int i : none) {
                CHECK.due("0 and " + i + " of " + many, spoonsOf(many).trade(0, i), BAD);
                CHECK.due(i + " and 0 of " + many, spoonsOf(many).trade(i, 0), BAD);
                CHECK.due("the last of " + many + " and " + i, spoonsOf(many).trade(last, i), BAD);
                CHECK.due(i + " and " + i + " of " + many, spoonsOf(many).trade(i, i), BAD);
            }
        }
        CHECK.due("one and none", spoonsOf(1).trade(0, 1), BAD);
        CHECK.due("none and one", spoonsOf(1).trade(1, 0), BAD);
    }

    /** Of so many members, each of whom has a spoon of one more than his number. */
    private static SpoonVotes spoonsOf(int many) {
        StringBuilder text = new StringBuilder();
        for (int i = 0; i < many; i++) {
            text.append("m0,").append(i + 1).append(",60,9;");
        }
        return Check.laid(text.toString());
    }

    private static void tradeOfOneWithHimself() {
        for (int i = 0; i < 7; i++) {
            SpoonVotes x = spoonsOf(7);
            CHECK.due(i + " with himself", x.trade(i, i), BAD);
            CHECK.due(i + " with himself: no act", x.count(8), 0);
        }
        CHECK.due("one alone with himself", spoonsOf(1).trade(0, 0), BAD);
        SpoonVotes alike = Check.laid("m1,4,20,9;m1,4,20,9;");
        CHECK.due("two whose spoons are alike", alike.trade(0, 1), 4);
        CHECK.due("that is an act", alike.count(8), 1);
    }

    private static void tradeOfSpoonsAlone() {
        SpoonVotes y = Check.laid("m0,6,60,9;m2,9,5,0;p99,0,0;");
        y.eat(1);
        CHECK.due("traded: S of 0 then", y.trade(0, 1), 9);
        int[][] members = {{2, 9, 54, 9, 6, 18}, {0, 6, 0, 0, 5, 0}};
        for (int i = 0; i < 2; i++) {
            for (int what = 0; what < 6; what++) {
                CHECK.due("traded: member " + i + ", " + what, y.member(i, what), members[i][what]);
            }
        }
        CHECK.due("traded: as much", y.count(1), 88);
        CHECK.due("traded: back again", y.trade(1, 0), 9);
        CHECK.due("traded back: S of 0", y.member(0, 1), 6);
    }

    private static void fastToNoMoreThan60() {
        int[][] hungerByAndDue = {{0, 6, 6}, {53, 6, 59}, {54, 6, 60}, {55, 6, 60}, {59, 6, 60}, {60, 6, 60},
            {58, 1, 59}, {59, 1, 60}, {60, 1, 60}, {39, 20, 59}, {40, 20, 60}, {41, 20, 60}};
        for (int[] row : hungerByAndDue) {
            SpoonVotes x = Check.laid("m0,1," + row[0] + ",9;f" + row[1] + ";");
            CHECK.due("hunger " + row[0] + " by " + row[1], x.fast(), row[2]);
            CHECK.due("of him, hunger " + row[0] + " by " + row[1], x.member(0, 2), row[2]);
        }
        SpoonVotes seven = Check.laid("m0,1,59,9;".repeat(7) + "f1;");
        CHECK.due("seven at 59", seven.fast(), 420);
        CHECK.due("seven at 60", seven.fast(), 420);
        CHECK.due("seven at 60: hunger of all", seven.count(5), 420);
    }

    private static void fastBy1And20() {
        for (int by = 1; by <= 20; by++) {
            SpoonVotes x = Check.laid("m0,1,0,9;m2,1,3,0;f" + by + ";p7,0,5;");
            CHECK.due("a day by " + by, x.fast(), 2 * by + 3);
            CHECK.due("two days by " + by, x.fast(), 4 * by + 3);
            CHECK.due("as much by " + by, x.count(1), 7);
            CHECK.due("as salt by " + by, x.count(3), 5);
            CHECK.due("nothing eaten by " + by, x.count(6), 0);
        }
    }

    private static void fastIsHeat0() {
        for (int heat = 0; heat <= 9; heat++) {
            SpoonVotes x = Check.laid("m0,1,0,9;p10," + heat + ",4;");
            x.fast();
            CHECK.due("fasted at heat " + heat, x.count(2), 0);
            CHECK.due("fasted at heat " + heat + ": acts", x.count(8), 1);
        }
    }

    private static void undoOfNoneOneAndEight() {
        CHECK.due("undo of a new one", new SpoonVotes().undo(), NO);
        for (int acts = 1; acts <= 8; acts++) {
            SpoonVotes x = Check.laid("m0,1,60,9;p99,0,0;");
            for (int k = 0; k < acts; k++) {
                CHECK.due("acts ahead", x.count(8), k);
                x.eat(1);
            }
            for (int left = acts - 1; left >= 0; left--) {
                CHECK.due("undo of " + acts + " to " + left, x.undo(), left);
                CHECK.due("undone to " + left + ": count", x.count(8), left);
                CHECK.due("undone to " + left + ": pot", x.count(1), 99 - left);
                CHECK.due("undone to " + left + ": eaten", x.count(6), left);
            }
            CHECK.due("undo of none", x.undo(), NO);
            CHECK.due("as it was at first", x.count(1), 99);
        }
    }

    private static void ninthActLosesTheFirst() {
        for (int acts = 8; acts <= 20; acts++) {
            SpoonVotes x = Check.laid("m0,1,60,9;p99,0,0;");
            for (int k = 0; k < acts; k++) {
                x.eat(1);
            }
            CHECK.due("of " + acts + " acts", x.count(8), 8);
            for (int left = 7; left >= 0; left--) {
                CHECK.due("of " + acts + " acts: undo", x.undo(), left);
            }
            CHECK.due("of " + acts + " acts: no ninth", x.undo(), NO);
            CHECK.due("of " + acts + " acts: the others stay", x.count(6), acts - 8);
        }
        SpoonVotes y = Check.laid("m0,1,60,9;p99,0,0;");
        for (int k = 0; k < 8; k++) {
            y.eat(1);
        }
        y.undo();
        y.eat(2);
        CHECK.due("eight again", y.count(8), 8);
        for (int k = 0; k < 8; k++) {
            y.undo();
        }
        CHECK.due("the first of eight is not lost", y.count(6), 0);
    }

    private static int act(SpoonVotes x, int which) {
        switch (which) {
            case 0:
                return x.eat(20);
            case 1:
                return x.salt();
            case 2:
                return x.cook(99);
            case 3:
                return x.cool();
            case 4:
                return x.trade(0, 1);
            default:
                return x.fast();
        }
    }

    private static void undoOfEachActAlone() {
        int[] due = {21, 9, 99, 8, 9, 81};
        for (int which = 0; which < 6; which++) {
            SpoonVotes x = Check.laid("m0,1,59,9;m2,9,1,9;p98,9,8;f20;");
            CHECK.due("act " + which, act(x, which), due[which]);
            CHECK.due("act " + which + ": one", x.count(8), 1);
            CHECK.due("act " + which + ": undo", x.undo(), 0);
            CHECK.due("act " + which + ": undo again", x.undo(), NO);
            int[] counts = {2, 98, 9, 8, 5, 60, 0, 0, 0, 0};
            for (int what = 0; what < counts.length; what++) {
                CHECK.due("act " + which + " undone: count " + what, x.count(what), counts[what]);
            }
            int[][] members = {{0, 1, 59, 9, 0, 1}, {2, 9, 1, 9, 0, 0}};
            for (int i = 0; i < 2; i++) {
                for (int what = 0; what < 6; what++) {
                    CHECK.due("act " + which + " undone: member " + i + ", " + what, x.member(i, what),
                            members[i][what]);
                }
            }
        }
    }

    private static void undoOfActsByWhichNothingChanges() {
        // Nobody bears the salt, it is cold, all are as hungry as can be, and their spoons are alike.
        for (int which = 0; which < 6; which++) {
            SpoonVotes x = Check.laid("m0,1,60,0;m0,1,60,0;p99,0,9;");
            int[] due = {0, NO, NO, NO, 1, 120};
            int acts = due[which] == NO ? 0 : 1;
            CHECK.due("nothing by act " + which, act(x, which), due[which]);
            CHECK.due("nothing by act " + which + ": acts", x.count(8), acts);
            CHECK.due("nothing by act " + which + ": undo", x.undo(), acts == 0 ? NO : 0);
        }
    }

    private static void undoneIsNoAct() {
        SpoonVotes x = Check.laid("m0,1,60,9;p99,0,0;");
        x.eat(1);
        x.eat(2);
        CHECK.due("undo the latest", x.undo(), 1);
        CHECK.due("undo the one before", x.undo(), 0);
        CHECK.due("no undoing of undo", x.undo(), NO);
        CHECK.due("nothing is eaten", x.count(6), 0);
        CHECK.due("it would not pass", x.passes(), NONE);
    }
}
