/**
 * The bounds of what comes, promises 14 to 23: a test for each sentence that names one, at the bound,
 * below it and above it.
 */
public final class BoundsOfComingTest {
    private static final int BAD = -1, NONE = -4;
    private static final Check CHECK = new Check();
    private static final String ONE_EACH = "m0,1,60,9;";
    private static final int[] HIGHEST_HEAT = {9, 4, 7, 8};

    public static void main(String[] args) {
        passesBehind0ToRRounds();
        passesByTheLastSpoonful();
        leftBehind0To20Rounds();
        leftIsNotBelow0();
        scraperIsTheFirstOrTheLast();
        scraperOfAnEmptyPot();
        scraperIfItPasses();
        spoilByOneMoreThanIsBorne();
        spoilOfWhatNobodyMinds();
        spoilOfWhatDoesNotPass();
        spoilOfAnEmptyPot();
        waitsUntilItIsColdEnough();
        waitsFromThenOn();
        waitsOfAnEmptyPotAndAColdOne();
        mostIs0To99();
        mostIsTheGreatestThatWouldPass();
        fastsAre0To10Days();
        fastsAreTheFewest();
        fastsToNoMoreThan60();
        cabalOfNoneToSeven();
        cabalOfFewestBeforeTheLowest();
        cabalOfSeveralTheLowest();
        cabalOfWhatThereIsNot();
        tradeOfEachTwo();
        tradeOfSeveralTheFirst();
        tradeThatIsNone();
        powerOfOneToSeven();
        powerOfNobody();
        powerInLowestTerms();
        powerOfWhatThereIsNot();
        CHECK.finish("bounds of what comes");
    }

    private static void passesBehind0ToRRounds() {
        for (int rounds = 1; rounds <= 20; rounds++) {
            for (int amount = 0; amount <= 22; amount++) {
                SpoonVotes x = Check.laid(ONE_EACH + "p" + amount + ",9,0;r" + rounds + ";");
                CHECK.due("a pot of " + amount + " in " + rounds, x.passes(), amount <= rounds ? amount : NONE);
            }
        }
        SpoonVotes without = Check.laid(ONE_EACH + "p5,0,0;");
        CHECK.due("5 rounds without r", without.passes(), 5);
        without.cook(6);
        CHECK.due("6 rounds without r", without.passes(), NONE);
    }

    private static void passesByTheLastSpoonful() {
        for (int amount = 1; amount <= 30; amount++) {
            SpoonVotes x = Check.laid("m0,5,60,9;p" + amount + ",0,0;");
            CHECK.due("by fives a pot of " + amount, x.passes(), amount <= 25 ? (amount + 4) / 5 : NONE);
            SpoonVotes hungry = Check.laid("m0,9," + amount + ",9;p20,0,0;");
            CHECK.due("by hunger " + amount + " a pot of 20", hungry.passes(), amount < 20 ? NONE : 3);
        }
    }

    private static void leftBehind0To20Rounds() {
        for (int n = 0; n <= 20; n++) {
            CHECK.due("left " + n + " of 99", Check.laid(ONE_EACH + "p99,9,0;r1;").left(n), 99 - n);
        }
        int[] bad = {-1, -2, 21, 22, 256, Integer.MIN_VALUE, Integer.MAX_VALUE};
        for (int n : bad) {
            CHECK.due("left " + n, new SpoonVotes().left(n), BAD);
            CHECK.due("left " + n + " of nothing", Check.laid(ONE_EACH + "p0,9,0;").left(n), BAD);
        }
    }

    private static void leftIsNotBelow0() {
        for (int amount = 0; amount <= 20; amount++) {
            SpoonVotes x = Check.laid(ONE_EACH + "p" + amount + ",9,0;");
            for (int n = 0; n <= 20; n++) {
                CHECK.due("left " + n + " of " + amount, x.left(n), Math.max(0, amount - n));
            }
        }
        SpoonVotes satisfied = Check.laid("m0,9,10,9;p12,0,0;");
        CHECK.due("left behind one", satisfied.left(1), 3);
        CHECK.due("left by him who is no longer hungry", satisfied.left(20), 2);
    }

    private static void scraperIsTheFirstOrTheLast() {
        for (int many = 1; many <= 7; many++) {
            for (int amount = 0; amount <= 3 * many + 1; amount++) {
                SpoonVotes x = Check.laid(ONE_EACH.repeat(many) + "p" + amount + ",0,0;r3;");
                int due = amount == 0 || amount > 3 * many ? NONE : (amount - 1) % many;
                CHECK.due("scraper of " + amount + " among " + many, x.scraper(), due);
            }
        }
    }

    private static void scraperOfAnEmptyPot() {
        SpoonVotes x = Check.laid(ONE_EACH + "p1,0,0;");
        CHECK.due("scraper of 1", x.scraper(), 0);
        x.eat(1);
        CHECK.due("scraper of what is eaten", x.scraper(), NONE);
        CHECK.due("that passes", x.passes(), 0);
        x.undo();
        CHECK.due("scraper of what is not eaten", x.scraper(), 0);
        CHECK.due("scraper of nothing laid", Check.laid(ONE_EACH + "p0,0,0;").scraper(), NONE);
    }

    private static void scraperIfItPasses() {
        for (int rounds = 1; rounds <= 20; rounds++) {
            String text = ONE_EACH + "m0,1,0,9;r" + rounds + ";p";
            CHECK.due("in the last of " + rounds, Check.laid(text + rounds + ",0,0;").scraper(), 0);
            CHECK.due("behind the last of " + rounds, Check.laid(text + (rounds + 1) + ",0,0;").scraper(), NONE);
        }
        // Who eats with nothing left behind him, but by no more than he is hungry.
        CHECK.due("by hunger", Check.laid("m0,9,3,9;m0,9,2,9;p5,0,0;").scraper(), 1);
        CHECK.due("by hunger alone", Check.laid("m0,9,5,9;m0,9,2,9;p5,0,0;").scraper(), 0);
        CHECK.due("by heat", Check.laid("m1,5,60,9;m0,1,2,9;p7,6,0;").scraper(), 0);
    }

    private static void spoilByOneMoreThanIsBorne() {
        for (int bears = 0; bears <= 8; bears++) {
            for (int salt = 0; salt <= 9; salt++) {
                SpoonVotes x = Check.laid("m0,9,60," + bears + ";p9,0," + salt + ";");
                int due = salt > bears ? 0 : bears + 1 - salt;
                CHECK.due("spoil of " + salt + " where " + bears + " is borne", x.spoil(), due);
            }
        }
        SpoonVotes x = Check.laid("m0,9,60,8;p9,0,0;");
        for (int left = 9; left >= 1; left--) {
            CHECK.due("spoil", x.spoil(), left);
            CHECK.due("it passes as it is", x.passes(), 1);
            x.salt();
        }
        CHECK.due("it is spoilt", x.spoil(), 0);
        CHECK.due("it does not pass", x.passes(), NONE);
    }

    private static void spoilOfWhatNobodyMinds() {
        for (int salt = 0; salt <= 9; salt++) {
            CHECK.due("spoil of " + salt + " where 9 is borne",
                    Check.laid("m0,9,60,9;p9,0," + salt + ";").spoil(), NONE);
            CHECK.due("spoil of " + salt + " where one of two is enough",
                    Check.laid("m0,9,60,0;m0,9,60,9;p9,0," + salt + ";").spoil(), NONE);
        }
    }

    private static void spoilOfWhatDoesNotPass() {
        for (int salt = 0; salt <= 9; salt++) {
            CHECK.due("spoil of one too much, " + salt, Check.laid("m0,2,60,9;p11,0," + salt + ";").spoil(), 0);
            CHECK.due("spoil of just enough, " + salt, Check.laid("m0,2,60,9;p10,0," + salt + ";").spoil(), NONE);
        }
    }

    private static void spoilOfAnEmptyPot() {
        for (int salt = 0; salt <= 9; salt++) {
            CHECK.due("spoil of nothing, " + salt, Check.laid("m0,9,60,0;p0,0," + salt + ";").spoil(), NONE);
        }
    }

    private static void waitsUntilItIsColdEnough() {
        for (int kind = 0; kind < 4; kind++) {
            for (int heat = 0; heat <= 9; heat++) {
                int due = Math.max(0, heat - HIGHEST_HEAT[kind]);
                CHECK.due("waits of kind " + kind + " at " + heat + ", one round",
                        Check.laid("m" + kind + ",1,60,9;p1," + heat + ",0;r1;").waits(), due);
            }
        }
    }

    private static void waitsFromThenOn() {
        // Silver: of R rounds he eats in those that are not above heat 4; as many are needed.
        for (int rounds = 1; rounds <= 8; rounds++) {
            for (int needed = 1; needed <= rounds + 1; needed++) {
                for (int heat = 0; heat <= 9; heat++) {
                    SpoonVotes x = Check.laid("m1,1,60,9;p" + needed + "," + heat + ",0;r" + rounds + ";");
                    int due = needed > rounds ? NONE : Math.max(0, heat - 4 - (rounds - needed));
                    String call = "waits for " + needed + " of " + rounds + " at " + heat;
                    CHECK.due(call, x.waits(), due);
                    for (int waited = 0; waited < due; waited++) {
                        CHECK.due(call + ": does not pass behind " + waited, x.passes(), NONE);
                        x.cool();
                    }
                    CHECK.isTrue(call + ": passes then", (x.passes() != NONE) == (due != NONE));
                }
            }
        }
    }

    private static void waitsOfAnEmptyPotAndAColdOne() {
        for (int heat = 0; heat <= 9; heat++) {
            CHECK.due("waits of nothing", Check.laid("m1,1,0,0;p0," + heat + ",9;").waits(), 0);
            CHECK.due("waits in vain by salt", Check.laid("m1,1,60,8;p1," + heat + ",9;").waits(), NONE);
            CHECK.due("waits in vain by hunger", Check.laid("m1,1,0,9;p1," + heat + ",9;").waits(), NONE);
        }
    }

    private static void mostIs0To99() {
        for (int hunger = 0; hunger <= 60; hunger++) {
            SpoonVotes x = Check.laid("m0,9,60,9;m0,9," + hunger + ",9;r20;p0,0,0;");
            CHECK.due("most of 60 and " + hunger, x.most(), Math.min(99, 60 + hunger));
        }
        CHECK.due("most of seven", Check.laid("m0,9,60,9;".repeat(7) + "r20;").most(), 99);
        CHECK.due("most of none who is hungry", Check.laid("m0,9,0,9;".repeat(7)).most(), 0);
        CHECK.due("most of none who bears it", Check.laid("m0,9,60,8;p99,0,9;").most(), 0);
        CHECK.due("most of what is too hot", Check.laid("m1,9,60,9;p1,9,9;r5;").most(), 0);
        CHECK.due("most of what is not", Check.laid("m1,9,60,9;p1,9,9;r6;").most(), 9);
        for (int amount = 0; amount <= 99; amount++) {
            CHECK.due("most in place of " + amount, Check.laid("m0,3,60,9;p" + amount + ",0,0;").most(), 15);
        }
    }

    private static void mostIsTheGreatestThatWouldPass() {
        String[] members = {"m0,1,60,9;", "m1,7,60,9;m2,3,20,5;", "m3,1,4,9;m1,2,13,2;m2,9,17,9;",
            "m0,9,50,9;m0,9,48,9;", "m0,9,50,9;m0,9,50,9;", "m1,1,1,1;"};
        for (String text : members) {
            for (int heat = 0; heat <= 9; heat++) {
                int most = Check.laid(text + "p50," + heat + ",1;r12;").most();
                for (int amount = 0; amount <= 99; amount++) {
                    SpoonVotes x = Check.laid(text + "p" + amount + "," + heat + ",1;r12;");
                    CHECK.isTrue(text + " at " + heat + ": most " + most + ", " + amount,
                            (x.passes() != NONE) == (amount <= most));
                }
            }
        }
    }

    private static void fastsAre0To10Days() {
        for (int amount = 0; amount <= 12; amount++) {
            SpoonVotes x = Check.laid("m0,9,0,9;f1;r20;p" + amount + ",0,0;");
            CHECK.due("fasts by 1 to " + amount, x.fasts(), amount <= 10 ? amount : NONE);
        }
        for (int amount = 0; amount <= 62; amount++) {
            SpoonVotes x = Check.laid("m0,9,0,9;f6;r20;p" + amount + ",0,0;");
            CHECK.due("fasts by 6 to " + amount, x.fasts(), amount <= 60 ? (amount + 5) / 6 : NONE);
            SpoonVotes y = Check.laid("m0,9,0,9;f5;r20;p" + amount + ",0,0;");
            CHECK.due("fasts by 5 to " + amount, y.fasts(), amount <= 50 ? (amount + 4) / 5 : NONE);
            SpoonVotes z = Check.laid("m0,9,0,9;f20;r20;p" + amount + ",0,0;");
            CHECK.due("fasts by 20 to " + amount, z.fasts(), amount <= 60 ? (amount + 19) / 20 : NONE);
        }
    }

    private static void fastsAreTheFewest() {
        for (int amount = 0; amount <= 40; amount++) {
            SpoonVotes x = Check.laid("m1,3,2,9;m0,1,5,9;f4;r10;p" + amount + ",9,0;");
            int days = x.fasts();
            for (int fasted = 0; fasted < days; fasted++) {
                CHECK.due("a pot of " + amount + " behind " + fasted, x.passes(), NONE);
                x.fast();
            }
            CHECK.isTrue("a pot of " + amount + " behind " + days, (x.passes() != NONE) == (days != NONE));
        }
        CHECK.due("a day as it is too hot", Check.laid("m1,9,60,9;p1,9,0;r1;").fasts(), 1);
        CHECK.due("no day as it is cold enough", Check.laid("m1,9,60,9;p1,4,0;r1;").fasts(), 0);
        CHECK.due("no day of an empty pot", Check.laid("m1,9,0,0;p0,9,9;r1;").fasts(), 0);
        CHECK.due("in vain where it is too salt", Check.laid("m1,9,60,0;p1,0,1;").fasts(), NONE);
    }

    private static void fastsToNoMoreThan60() {
        for (int hunger = 40; hunger <= 60; hunger++) {
            String member = "m0,9," + hunger + ",9;f20;r20;p";
            CHECK.due("60 from " + hunger, Check.laid(member + "60,0,0;").fasts(), hunger == 60 ? 0 : 1);
            CHECK.due("61 from " + hunger, Check.laid(member + "61,0,0;").fasts(), NONE);
            CHECK.due("59 from " + hunger, Check.laid(member + "59,0,0;").fasts(), hunger >= 59 ? 0 : 1);
        }
    }

    private static void cabal(String text, int many, int which) {
        CHECK.due("cabal(0) of " + text, Check.laid(text).cabal(0), many);
        CHECK.due("cabal(1) of " + text, Check.laid(text).cabal(1), which);
    }

    private static void cabalOfNoneToSeven() {
        for (int many = 1; many <= 7; many++) {
            for (int amount = 0; amount <= 8; amount++) {
                String text = "m0,1,1,9;".repeat(many) + "p" + amount + ",0,0;";
                cabal(text, amount <= many ? amount : NONE, amount <= many ? (1 << amount) - 1 : NONE);
            }
        }
    }

    private static void cabalOfFewestBeforeTheLowest() {
        for (int strong = 0; strong < 7; strong++) {
            String text = "m0,1,2,9;".repeat(strong) + "m0,9,4,9;" + "m0,1,2,9;".repeat(6 - strong);
            cabal(text + "p4,0,0;", 1, 1 << strong);
            cabal(text + "p2,0,0;", 1, 1);
            cabal(text + "p5,0,0;", 2, strong == 0 ? 3 : 1 | 1 << strong);
        }
    }

    private static void cabalOfSeveralTheLowest() {
        // They eat 1, 5, 0, 0, 0, 5, 9 of 10: 1 and 5; 0 and 6; 1 and 6; 5 and 6.
        cabal("m0,9,1,9;m0,9,5,9;m0,9,0,9;m0,9,0,9;m0,9,0,9;m0,9,5,9;m0,9,9,9;p10,0,0;", 2, 34);
        // The same without 5: 0 and 6; 1 and 6.
        cabal("m0,9,1,9;m0,9,5,9;m0,9,0,9;m0,9,0,9;m0,9,0,9;m0,9,0,9;m0,9,9,9;p10,0,0;", 2, 65);
        cabal("m0,9,60,9;m0,9,60,9;p9,0,0;", 1, 1);
        cabal("m0,9,60,9;m0,9,60,9;m0,9,60,9;p99,0,0;r8;", 2, 3);
        // Alone, the others not eating: what they would take is not left to him.
        cabal("m0,9,5,9;m0,9,5,9;p10,0,0;", 2, 3);
        cabal("m0,9,5,9;m0,9,5,9;p11,0,0;", NONE, NONE);
    }

    private static void cabalOfWhatThereIsNot() {
        int[] bad = {-1, 2, 3, Integer.MIN_VALUE, Integer.MAX_VALUE};
        String[] texts = {"m0,9,60,9;p9,0,0;", "m0,9,60,9;p0,0,0;", "m0,9,0,9;p9,0,0;"};
        for (String text : texts) {
            for (int what : bad) {
                CHECK.due("cabal " + what + " of " + text, Check.laid(text).cabal(what), BAD);
            }
        }
    }

    /** Seven of whom one is hungry, and another, who is not, has the large spoon. */
    private static String hungryAndSpoon(int hungry, int spoon) {
        StringBuilder text = new StringBuilder();
        for (int i = 0; i < 7; i++) {
            text.append(i == hungry ? "m0,1,60,9;" : i == spoon ? "m0,9,0,9;" : "m0,1,0,9;");
        }
        return text.toString();
    }

    private static void tradeOfEachTwo() {
        for (int hungry = 0; hungry < 7; hungry++) {
            for (int spoon = 0; spoon < 7; spoon++) {
                if (hungry == spoon) continue;
                int due = 10 * Math.min(hungry, spoon) + Math.max(hungry, spoon);
                String members = hungryAndSpoon(hungry, spoon);
                String call = "trades of " + hungry + " with the spoon of " + spoon;
                CHECK.due(call, Check.laid(members + "p45,0,0;").trades(), due);
                CHECK.due(call + ", one too much", Check.laid(members + "p46,0,0;").trades(), NONE);
                CHECK.due(call + ", one too little", Check.laid(members + "p6,0,0;").trades(), due);
                CHECK.due(call + ", as it passes now", Check.laid(members + "p5,0,0;").trades(), NONE);
            }
        }
    }

    private static void tradeOfSeveralTheFirst() {
        String small = "m0,1,0,9;";
        String large = "m0,9,0,9;";
        String hungry = "m0,1,60,9;";
        CHECK.due("large spoons alone", Check.laid(hungry + large + large + "p45,0,0;").trades(), 1);
        CHECK.due("01 before 02 and 12", Check.laid(large + hungry + large + "p45,0,0;").trades(), 1);
        CHECK.due("02 before 12", Check.laid(large + large + hungry + "p45,0,0;").trades(), 2);
        CHECK.due("02 before 03", Check.laid(large + large + hungry + hungry + "p45,0,0;").trades(), 2);
        CHECK.due("06 alone", Check.laid(large + small.repeat(5) + hungry + "p45,0,0;").trades(), 6);
        // 0 and 6 let it pass, 1 and 2, and 1 and 6.
        CHECK.due("06 before 12", Check.laid("m0,5,60,9;m0,1,20,9;m0,4,0,9;" + small.repeat(3) + large
                + "p45,0,0;").trades(), 6);
        CHECK.due("12 without 06", Check.laid("m0,5,60,9;m0,1,20,9;m0,4,0,9;" + small.repeat(4)
                + "p45,0,0;").trades(), 12);
        CHECK.due("12 before 15", Check.laid(small + large + "m0,1,44,9;" + large + small + hungry
                + "p49,0,0;").trades(), 12);
        CHECK.due("13 before 34", Check.laid(small + large + small + hungry + large + hungry
                + "p50,0,0;").trades(), 13);
    }

    private static void tradeThatIsNone() {
        CHECK.due("one alone", Check.laid("m0,1,60,9;p6,0,0;").trades(), NONE);
        CHECK.due("an empty pot passes now", Check.laid("m0,1,60,9;m0,9,0,9;p0,0,0;").trades(), NONE);
        CHECK.due("like spoons", Check.laid("m0,1,60,9;m0,1,60,9;p11,0,0;").trades(), NONE);
        SpoonVotes x = Check.laid("m0,1,60,9;m0,9,0,9;p45,0,0;");
        CHECK.due("it does not pass now", x.trades(), 1);
        x.trade(0, 1);
        CHECK.due("it passes now", x.trades(), NONE);
        CHECK.due("by five rounds", x.passes(), 5);
    }

    private static void power(SpoonVotes x, int i, int above, int below) {
        CHECK.due("power of " + i + ", above", x.power(i, 0), above);
        CHECK.due("power of " + i + ", below", x.power(i, 1), below);
    }

    private static void powerOfOneToSeven() {
        for (int many = 1; many <= 7; many++) {
            for (int needed = 0; needed <= many + 1; needed++) {
                SpoonVotes x = Check.laid("m0,1,1,9;".repeat(many) + "p" + needed + ",0,0;");
                boolean isOneOfThem = needed > 0 && needed <= many;
                for (int i = 0; i < many; i++) {
                    power(x, i, isOneOfThem ? 1 : 0, isOneOfThem ? many : 1);
                }
            }
        }
    }

    private static void powerOfNobody() {
        SpoonVotes x = Check.laid("m0,9,60,9;m0,9,0,9;p9,0,0;");
        power(x, 0, 1, 1);
        power(x, 1, 0, 1);
        SpoonVotes bystander = Check.laid("m0,9,5,9;m0,9,4,9;m0,9,5,9;p10,0,0;");
        power(bystander, 0, 1, 2);
        power(bystander, 1, 0, 1);
        power(bystander, 2, 1, 2);
        SpoonVotes needed = Check.laid("m0,9,5,9;m0,9,5,9;m0,9,5,9;p10,0,0;");
        power(needed, 1, 1, 3);
        SpoonVotes salt = Check.laid("m0,9,60,3;m0,9,60,4;p9,0,4;");
        power(salt, 0, 0, 1);
        power(salt, 1, 1, 1);
    }

    private static void powerInLowestTerms() {
        // They eat 2, 1, 1 of 3: 4 and 1 and 1 of 6 orders.
        SpoonVotes three = Check.laid("m0,9,2,9;m0,9,1,9;m0,9,1,9;p3,0,0;");
        power(three, 0, 2, 3);
        power(three, 1, 1, 6);
        power(three, 2, 1, 6);
        // 0 is needed by no three but 1, 2 and 3: 36 of 5040 orders.
        SpoonVotes seven = Check.laid("m0,9,1,9;m0,9,8,9;m0,9,8,9;m0,9,8,9;m0,9,9,9;m0,9,9,9;m0,9,9,9;p25,0,0;");
        power(seven, 0, 1, 140);
        // The others share the rest of all orders, three and three alike.
        int orders = 0;
        for (int i = 0; i < 7; i++) {
            CHECK.due("some of 5040: " + i, 5040 % seven.power(i, 1), 0);
            orders += seven.power(i, 0) * (5040 / seven.power(i, 1));
        }
        CHECK.due("all of them together", orders, 5040);
        for (int i = 2; i <= 3; i++) {
            power(seven, i, seven.power(1, 0), seven.power(1, 1));
            power(seven, i + 3, seven.power(4, 0), seven.power(4, 1));
        }
    }

    private static void powerOfWhatThereIsNot() {
        int[] noParts = {-1, 2, 3, Integer.MIN_VALUE, Integer.MAX_VALUE};
        for (int many = 1; many <= 7; many++) {
            SpoonVotes x = Check.laid("m0,1,1,9;".repeat(many) + "p" + many + ",0,0;");
            int[] noMembers = {-1, many, 7, 8, Integer.MIN_VALUE, Integer.MAX_VALUE};
            for (int i : noMembers) {
                CHECK.due("power of " + i + " among " + many, x.power(i, 0), BAD);
                CHECK.due("power of " + i + " among " + many + ", below", x.power(i, 1), BAD);
            }
            for (int part : noParts) {
                CHECK.due("power of 0, part " + part, x.power(0, part), BAD);
                CHECK.due("power of the last, part " + part, x.power(many - 1, part), BAD);
            }
            power(x, many - 1, 1, many);
        }
    }
}
