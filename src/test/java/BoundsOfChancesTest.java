import java.math.BigInteger;

/**
 * The bounds of LIKELY and of a CENTURY, promises 27 and 28: a test for each sentence that names one,
 * at the bound, below it and above it.
 */
public final class BoundsOfChancesTest {
    private static final int BAD = -1;
    private static final Check CHECK = new Check();

    public static void main(String[] args) {
        likelyBy0To10();
        likelyOfAnEmptyPotAndOfNone();
        likelyOfOneToSeven();
        likelyOfWhatThereIsNot();
        centuryOf1To40Times();
        centuryBy0To9999();
        centuryCooksIfThatIsMore();
        centuryCooksTo0And59();
        centuryCooksToHeat9();
        centurySaltsByTheThirds();
        centurySaltsTo9AtMost();
        centuryFastsTo60();
        centuryFastsToHeat0();
        centuryEatsByRounds();
        centuryOfAnEmptyPot();
        centuryOfWhatThereIsNot();
        CHECK.finish("bounds of chances, centuries");
    }

    private static void likely(String text, int x, long above, long below) {
        CHECK.due("likely(" + x + ", 0) of " + text, Check.laid(text).likely(x, 0), above);
        CHECK.due("likely(" + x + ", 1) of " + text, Check.laid(text).likely(x, 1), below);
    }

    private static void likelyBy0To10() {
        int[][] due = {{0, 1}, {1, 10}, {1, 5}, {3, 10}, {2, 5}, {1, 2}, {3, 5}, {7, 10}, {4, 5}, {9, 10}, {1, 1}};
        for (int x = 0; x <= 10; x++) {
            likely("m0,9,60,9;p9,0,0;", x, due[x][0], due[x][1]);
            likely("m0,9,60,9;m0,9,60,0;p9,0,1;", x, due[x][0], due[x][1]);
        }
        int[] bad = {-1, -2, 11, 12, Integer.MIN_VALUE, Integer.MAX_VALUE};
        for (int x : bad) {
            CHECK.due("likely(" + x + ", 0)", new SpoonVotes().likely(x, 0), BAD);
            CHECK.due("likely(" + x + ", 1)", new SpoonVotes().likely(x, 1), BAD);
        }
    }

    private static void likelyOfAnEmptyPotAndOfNone() {
        for (int x = 0; x <= 10; x++) {
            likely("m0,9,60,9;p0,0,0;", x, 1, 1);
            likely("m0,9,60,9;".repeat(7) + "p0,0,0;", x, 1, 1);
            likely("m0,9,8,9;p9,0,0;", x, 0, 1);
            likely("m0,9,1,9;".repeat(7) + "p8,0,0;", x, 0, 1);
        }
    }

    private static void likelyOfOneToSeven() {
        for (int many = 1; many <= 7; many++) {
            for (int needed = 1; needed <= many; needed++) {
                for (int x = 0; x <= 10; x++) {
                    long above = atLeast(needed, many, x);
                    long below = power(10, many);
                    long divisor = BigInteger.valueOf(above).gcd(BigInteger.valueOf(below)).longValue();
                    likely("m0,1,1,9;".repeat(many) + "p" + needed + ",0,0;", x, above / divisor, below / divisor);
                }
            }
        }
        likely("m0,1,1,9;".repeat(7) + "p7,0,0;", 1, 1, 10000000);
        likely("m0,1,1,9;".repeat(7) + "p7,0,0;", 9, 4782969, 10000000);
    }

    /** Of 10 to the power of so many cases, those in which at least as many as are needed are there. */
    private static long atLeast(int needed, int many, int x) {
        long cases = 0;
        long choices = 1;
        for (int there = 0; there <= many; there++) {
            if (there >= needed) cases += choices * power(x, there) * power(10 - x, many - there);
            choices = choices * (many - there) / (there + 1);
        }
        return cases;
    }

    private static long power(int base, int exponent) {
        return BigInteger.valueOf(base).pow(exponent).longValue();
    }

    private static void likelyOfWhatThereIsNot() {
        int[] bad = {-1, 2, 3, Integer.MIN_VALUE, Integer.MAX_VALUE};
        for (int part : bad) {
            CHECK.due("likely(0, " + part + ")", new SpoonVotes().likely(0, part), BAD);
            CHECK.due("likely(10, " + part + ")", new SpoonVotes().likely(10, part), BAD);
        }
    }

    /** DRAW as the document tells it, with numbers of any size. */
    private static int draw(int z, int time) {
        BigInteger x = BigInteger.valueOf(7919).multiply(BigInteger.valueOf(z))
                .add(BigInteger.valueOf(6151).multiply(BigInteger.valueOf(time))).add(BigInteger.ONE);
        return x.multiply(x).mod(BigInteger.valueOf(65521)).divide(BigInteger.valueOf(8)).intValue();
    }

    private static void century(String text, int z, int n, int pot, int eaten) {
        CHECK.due("century(" + z + ", " + n + ", 0) of " + text, Check.laid(text).century(z, n, 0), pot);
        CHECK.due("century(" + z + ", " + n + ", 1) of " + text, Check.laid(text).century(z, n, 1), eaten);
    }

    /** Against the other telling of the document, which lives each time anew. */
    private static void centuryAsModelled(String text, int z, int n) {
        Model model = new Model();
        for (int place = 0; place < text.length(); place++) {
            model.write(text.charAt(place));
        }
        model.lay();
        century(text, z, n, model.century(z, n, 0), model.century(z, n, 1));
    }

    private static void centuryOf1To40Times() {
        String text = "m0,3,12,9;m1,4,20,5;m2,2,9,7;m3,5,30,9;p40,6,2;";
        int[] centuries = {0, 1, 2, 9998, 9999};
        for (int z : centuries) {
            for (int n = 1; n <= 40; n++) {
                centuryAsModelled(text, z, n);
            }
        }
        int[] bad = {0, -1, 41, 42, Integer.MIN_VALUE, Integer.MAX_VALUE};
        for (int n : bad) {
            CHECK.due("century of " + n + " times, 0", new SpoonVotes().century(0, n, 0), BAD);
            CHECK.due("century of " + n + " times, 1", new SpoonVotes().century(9999, n, 1), BAD);
        }
    }

    private static void centuryBy0To9999() {
        for (int z = 0; z <= 9999; z++) {
            if (draw(z, 0) % 4 == 0) {
                century("m0,5,60,9;p99,0,0;", z, 1, 94, 5);
            } else {
                century("m0,5,60,9;p99,0,0;", z, 1, 99, 0);
            }
        }
        int[] bad = {-1, -2, 10000, 10001, Integer.MIN_VALUE, Integer.MAX_VALUE};
        for (int z : bad) {
            CHECK.due("century by " + z + ", 0", new SpoonVotes().century(z, 1, 0), BAD);
            CHECK.due("century by " + z + ", 1", new SpoonVotes().century(z, 40, 1), BAD);
        }
    }

    /** The first z by which the first two draws are such, or one of no century. */
    private static int by(int firstModulo4, int secondModulo4, int rest, int modulo) {
        for (int z = 0; z <= 9999; z++) {
            boolean isSecond = secondModulo4 < 0 || draw(z, 1) % 4 == secondModulo4;
            if (draw(z, 0) % 4 == firstModulo4 && isSecond && draw(z, 0) / 4 % modulo == rest) return z;
        }
        CHECK.isTrue("there is such a century", false);
        return -1;
    }

    private static void centuryCooksIfThatIsMore() {
        int[] cooked = {1, 2, 30, 58, 59};
        for (int to : cooked) {
            int z = by(1, -1, to, 60);
            century("m0,5,60,9;p" + (to - 1) + ",0,0;", z, 1, to, 0);
            century("m0,5,60,9;p" + to + ",0,0;", z, 1, to, 0);
            century("m0,5,60,9;p" + (to + 1) + ",0,0;", z, 1, to + 1, 0);
            century("m0,5,60,9;p0,0,0;", z, 1, to, 0);
            century("m0,5,60,9;p99,0,0;", z, 1, 99, 0);
        }
    }

    private static void centuryCooksTo0And59() {
        for (int to = 0; to < 60; to++) {
            century("m0,5,60,9;p0,0,0;", by(1, -1, to, 60), 1, to, 0);
        }
        // To 0 it is not cooked in an empty pot: the next round is as cold as it was.
        int z = by(1, 0, 0, 60);
        century("m1,5,60,9;p0,0,0;", z, 2, 0, 0);
        century("m1,5,60,9;p5,4,0;", z, 2, 0, 5);
    }

    private static void centuryCooksToHeat9() {
        int z = by(1, 0, 20, 60);
        century("m1,5,60,9;p20,0,0;", z, 2, 15, 5);
        century("m1,5,60,9;p19,0,0;", z, 2, 20, 0);
        century("m3,5,60,9;p19,0,0;", z, 2, 20, 0);
        century("m0,5,60,9;p19,0,0;", z, 2, 15, 5);
    }

    private static void centurySaltsByTheThirds() {
        int[] dueEaten = {0, 5, 5};
        for (int rest = 0; rest < 3; rest++) {
            int z = by(2, 0, rest, 3);
            century("m0,5,60,0;p50,0,0;", z, 1, 50, 0);
            century("m0,5,60,0;p50,0,0;", z, 2, 50 - dueEaten[rest], dueEaten[rest]);
            century("m0,5,60,1;p50,0,0;", z, 2, 45, 5);
        }
    }

    private static void centurySaltsTo9AtMost() {
        int z = by(2, 0, 0, 3);
        century("m0,5,60,9;p50,0,8;", z, 2, 45, 5);
        century("m0,5,60,8;p50,0,8;", z, 2, 50, 0);
        century("m0,5,60,8;p50,0,7;", z, 2, 45, 5);
        century("m0,5,60,9;p50,0,9;", z, 2, 45, 5);
    }

    private static void centuryFastsTo60() {
        int z = by(3, 0, 0, 1);
        century("m0,9,0,9;p50,0,0;f1;", z, 1, 50, 0);
        century("m0,9,0,9;p50,0,0;f1;", z, 2, 49, 1);
        century("m0,9,0,9;p50,0,0;f9;", z, 2, 41, 9);
        century("m0,9,1,9;p50,0,0;f7;", z, 2, 42, 8);
        // What is fasted beyond 60 would tell in what is eaten in 40 times alone.
        for (int hunger = 58; hunger <= 60; hunger++) {
            for (int century = 0; century < 100; century++) {
                centuryAsModelled("m0,9," + hunger + ",9;m2,9,60,9;p99,0,0;f20;", century, 40);
            }
        }
    }

    private static void centuryFastsToHeat0() {
        int z = by(3, 0, 0, 1);
        century("m1,5,60,9;p50,9,0;", z, 2, 45, 5);
        century("m2,5,60,9;p50,9,0;", z, 2, 40, 10);
        century("m3,5,60,9;p50,9,0;", z, 2, 49, 1);
    }

    private static void centuryEatsByRounds() {
        int twice = by(0, 0, 0, 1);
        century("m0,5,60,9;p50,9,0;", twice, 1, 45, 5);
        century("m0,5,60,9;p50,9,0;", twice, 2, 40, 10);
        // It is one colder behind the first of the two.
        century("m1,5,60,9;p50,5,0;", twice, 1, 50, 0);
        century("m1,5,60,9;p50,5,0;", twice, 2, 45, 5);
        century("m1,5,60,9;p50,6,0;", twice, 2, 50, 0);
        century("m0,5,60,9;m0,5,60,9;p7,0,0;", twice, 1, 0, 7);
        century("m0,5,60,9;m0,5,60,9;p7,0,0;", twice, 2, 0, 7);
    }

    private static void centuryOfAnEmptyPot() {
        century("m0,5,60,9;p0,0,0;", by(0, 0, 0, 1), 2, 0, 0);
        SpoonVotes x = Check.laid("m0,5,60,9;p5,0,0;");
        x.eat(1);
        int cookedThenEaten = by(1, 0, 59, 60);
        CHECK.due("cooked anew: pot", x.century(cookedThenEaten, 2, 0), 54);
        CHECK.due("cooked anew: what has been eaten by now, too", x.century(cookedThenEaten, 2, 1), 10);
        CHECK.due("nothing changes: pot", x.count(1), 0);
        CHECK.due("nothing changes: eaten", x.count(6), 5);
        CHECK.due("nothing changes: acts", x.count(8), 1);
        for (int z = 0; z < 100; z++) {
            centuryAsModelled("m0,5,60,9;m1,9,0,4;p0,9,9;f20;", z, 40);
        }
    }

    private static void centuryOfWhatThereIsNot() {
        int[] bad = {-1, 2, 3, Integer.MIN_VALUE, Integer.MAX_VALUE};
        for (int what : bad) {
            CHECK.due("century(0, 1, " + what + ")", new SpoonVotes().century(0, 1, what), BAD);
            CHECK.due("century(9999, 40, " + what + ")", new SpoonVotes().century(9999, 40, what), BAD);
        }
    }
}
