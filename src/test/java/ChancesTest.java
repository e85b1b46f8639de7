/** Promises 27 and 28: how likely it is passed, and centuries. */
public final class ChancesTest {
    private static final int BAD = -1;
    private static final Check CHECK = new Check();

    public static void main(String[] args) {
        promise27Likely();
        promise27LikelyBad();
        promise28CenturyStepByStep();
        promise28CenturyCooks();
        promise28CenturySalts();
        promise28CenturyFromNowOn();
        promise28CenturyBad();
        CHECK.finish("chances, centuries");
    }

    private static void likely(SpoonVotes x, int tenths, int above, int below) {
        CHECK.due("likely by " + tenths + ", above", x.likely(tenths, 0), above);
        CHECK.due("likely by " + tenths + ", below", x.likely(tenths, 1), below);
    }

    private static void promise27Likely() {
        // All five are needed.
        SpoonVotes x = new SpoonVotes();
        likely(x, 0, 0, 1);
        likely(x, 1, 1, 100000);
        likely(x, 2, 1, 3125);
        likely(x, 5, 1, 32);
        likely(x, 9, 59049, 100000);
        likely(x, 10, 1, 1);
        // Either of two: 1 - (1 - x) (1 - x).
        SpoonVotes either = Check.laid("m0,9,60,9;m0,9,60,9;p9,0,0;");
        likely(either, 0, 0, 1);
        likely(either, 3, 51, 100);
        likely(either, 5, 3, 4);
        likely(either, 10, 1, 1);
        SpoonVotes one = Check.laid("m0,9,60,9;m0,9,8,9;p9,0,0;");
        likely(one, 3, 3, 10);
        likely(one, 4, 2, 5);
        likely(Check.laid("m0,9,60,9;p0,0,0;"), 0, 1, 1);
        likely(Check.laid("m0,9,60,9;p99,0,0;"), 10, 0, 1);
        // Four of seven at least, 3 of ten each.
        likely(Check.laid("m0,1,1,9;m0,1,1,9;m0,1,1,9;m0,1,1,9;m0,1,1,9;m0,1,1,9;m0,1,1,9;p4,0,0;"),
                3, 31509, 250000);
        // All seven, 3 of ten each: there is nothing to cancel.
        likely(Check.laid("m0,1,1,9;m0,1,1,9;m0,1,1,9;m0,1,1,9;m0,1,1,9;m0,1,1,9;m0,1,1,9;p7,0,0;"),
                3, 2187, 10000000);
    }

    private static void promise27LikelyBad() {
        SpoonVotes x = new SpoonVotes();
        int[] bad = {-1, 11, Integer.MIN_VALUE, Integer.MAX_VALUE};
        for (int number : bad) {
            CHECK.due("likely by " + number, x.likely(number, 0), BAD);
        }
        int[] noParts = {-1, 2, Integer.MIN_VALUE, Integer.MAX_VALUE};
        for (int part : noParts) {
            CHECK.due("likely, part " + part, x.likely(5, part), BAD);
        }
    }

    private static void century(SpoonVotes x, int z, int n, int pot, int eaten) {
        CHECK.due("century " + z + ", " + n + ": in the pot", x.century(z, n, 0), pot);
        CHECK.due("century " + z + ", " + n + ": eaten", x.century(z, n, 1), eaten);
    }

    private static void promise28CenturyStepByStep() {
        SpoonVotes x = new SpoonVotes();
        century(x, 0, 1, 31, 9);
        // It is cooked to 36.
        century(x, 0, 2, 36, 9);
        // A day is fasted, so that all eat.
        century(x, 0, 3, 36, 9);
        century(x, 0, 4, 23, 22);
        century(x, 0, 5, 10, 35);
        // A day is fasted first, then a round eaten.
        century(x, 3, 1, 40, 0);
        century(x, 3, 2, 27, 13);
        int[] counts = {5, 40, 6, 2, 5, 79, 0, 0, 0, 0, 0};
        for (int what = 0; what < counts.length; what++) {
            CHECK.due("behind centuries: count " + what, x.count(what), counts[what]);
        }
    }

    private static void promise28CenturyCooks() {
        // Cooked to 7, then to 16, if that is more.
        century(new SpoonVotes(), 8, 2, 40, 0);
        century(Check.laid("m0,1,1,1;p0,0,0;"), 8, 1, 7, 0);
        century(Check.laid("m0,1,1,1;p0,0,0;"), 8, 2, 16, 0);
        century(Check.laid("m0,1,1,1;p8,0,0;"), 8, 1, 8, 0);
        // Cooked to 22, by which it is too hot for silver; or not, where there is as much; then a round.
        century(Check.laid("m1,3,60,9;p21,0,0;"), 21, 2, 22, 0);
        century(Check.laid("m1,3,60,9;p22,0,0;"), 21, 2, 19, 3);
    }

    private static void promise28CenturySalts() {
        // Salt but at the second time, two fasts, then a round: one does not bear 3.
        century(new SpoonVotes(), 4, 6, 28, 12);
        century(Check.laid("m0,3,12,9;p40,0,9;"), 4, 6, 37, 3);
        century(Check.laid("m0,3,12,8;p40,0,8;"), 4, 6, 40, 0);
        century(Check.laid("m0,3,12,8;p40,0,7;"), 4, 6, 37, 3);
        // By these, salt first, if the rest of the draw is right for it, and a round then.
        int[] salted = {80, 134};
        int[] notSalted = {101, 236};
        for (int z : salted) {
            century(Check.laid("m0,3,12,5;p40,0,5;"), z, 2, 40, 0);
        }
        for (int z : notSalted) {
            century(Check.laid("m0,3,12,5;p40,0,5;"), z, 2, 37, 3);
        }
    }

    private static void promise28CenturyFromNowOn() {
        SpoonVotes x = new SpoonVotes();
        x.eat(1);
        century(x, 0, 1, 22, 18);
        century(x, 0, 2, 36, 18);
        CHECK.due("eaten by now", x.count(6), 9);
        CHECK.due("one act", x.count(8), 1);
    }

    private static void promise28CenturyBad() {
        SpoonVotes x = new SpoonVotes();
        int[][] bad = {{-1, 1, 0}, {10000, 1, 0}, {0, 0, 0}, {0, -1, 0}, {0, 41, 0}, {0, 1, -1}, {0, 1, 2},
            {Integer.MIN_VALUE, 1, 0}, {Integer.MAX_VALUE, 1, 0}, {0, Integer.MIN_VALUE, 0},
            {0, Integer.MAX_VALUE, 0}, {0, 1, Integer.MIN_VALUE}, {0, 1, Integer.MAX_VALUE}};
        for (int[] row : bad) {
            CHECK.due("century " + row[0] + ", " + row[1] + ", " + row[2],
                    x.century(row[0], row[1], row[2]), BAD);
        }
        century(x, 9999, 2, 22, 18);
        CHECK.isTrue("the longest of the last is none that is BAD", x.century(9999, 40, 1) >= 18);
    }
}
