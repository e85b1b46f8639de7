import java.util.ArrayList;
import java.util.List;
import java.util.Random;

/**
 * The promises as they stand together: what a question tells of what comes is so when it comes, and how
 * all stands, told anew in a text, answers alike. Of the class's own answers alone, without the model;
 * all sittings are drawn from a fixed seed.
 */
public final class TogetherTest {
    private static final int SITTINGS = 160;
    private static final int NO = -2, NONE = -4;
    private static final Check CHECK = new Check();

    private final int seed;
    private final String fast;
    private final int members, pot, heat, salt, rounds, hunger, eaten;
    /** What member(i, what) answers. */
    private final int[][] row;
    /** What left(n) answers. */
    private final int[] left = new int[21];
    private final boolean passesNow;
    /** Of each set of members, whether they let it pass. */
    private final boolean[] lets;

    private TogetherTest(int seed) {
        this.seed = seed;
        this.fast = "f" + (1 + new Random(seed).nextInt(20)) + ";";
        SpoonVotes x = stand();
        this.members = x.count(0);
        this.pot = x.count(1);
        this.heat = x.count(2);
        this.salt = x.count(3);
        this.rounds = x.count(4);
        this.hunger = x.count(5);
        this.eaten = x.count(6);
        this.row = new int[members][6];
        for (int i = 0; i < members; i++) {
            for (int what = 0; what <= 5; what++) {
                row[i][what] = x.member(i, what);
            }
        }
        for (int n = 0; n < left.length; n++) {
            left[n] = x.left(n);
        }
        this.passesNow = x.passes() != NONE;
        this.lets = new boolean[1 << members];
        for (int set = 0; set < lets.length; set++) {
            lets[set] = set == 0 ? pot == 0 : told(set, pot, heat, salt).passes() != NONE;
        }
    }

    public static void main(String[] args) {
        int passed = 0;
        for (int seed = 0; seed < SITTINGS; seed++) {
            TogetherTest test = new TogetherTest(seed);
            if (test.passesNow) passed++;
            test.all();
        }
        CHECK.isTrue("some pass and some do not: " + passed, passed > SITTINGS / 4 && passed < SITTINGS * 3 / 4);
        CHECK.finish("together");
    }

    private void all() {
        toldAnewAsItStands();
        leftIsWhatEatLeaves();
        passesIsTheFirstThatLeavesNothing();
        scraperIsWhoAteTheLast();
        wouldEatIsWhatHeEatsAlone();
        spoiltBySoMuchSalt();
        passesBehindSoManyWaits();
        passesBehindSoManyFasts();
        mostPassesAndOneMoreDoesNot();
        cabalIsTheFirstOfTheFewest();
        tradesIsTheFirstThatHelps();
        powerIsByOrders();
        likelyIsByCases();
        mayIsWhatIsEatenThen();
        centuryIsLivedByCalls();
        undoneAndBackIsAsItWas();
    }

    /** One that stands as this sitting does; none is asked more than the 512 calls of the document. */
    private SpoonVotes stand() {
        Random random = new Random(seed);
        random.nextInt(20);
        StringBuilder text = new StringBuilder();
        int many = 1 + random.nextInt(7);
        for (int i = 0; i < many; i++) {
            text.append("m" + random.nextInt(4) + "," + (1 + random.nextInt(9)) + "," + random.nextInt(61) + ","
                    + random.nextInt(10) + ";");
        }
        text.append("p" + random.nextInt(100) + "," + random.nextInt(10) + "," + random.nextInt(5) + ";");
        text.append("r" + (1 + random.nextInt(random.nextBoolean() ? 8 : 20)) + ";" + fast);
        SpoonVotes votes = Check.laid(text.toString());
        for (int acts = random.nextInt(5); acts > 0; acts--) {
            act(votes, random, many);
        }
        return votes;
    }

    private static void act(SpoonVotes votes, Random random, int many) {
        switch (random.nextInt(6)) {
            case 0:
                votes.salt();
                break;
            case 1:
                votes.cook(1 + random.nextInt(99));
                break;
            case 2:
                votes.cool();
                break;
            case 3:
                votes.trade(random.nextInt(many), random.nextInt(many));
                break;
            case 4:
                votes.fast();
                break;
            default:
                votes.eat(1 + random.nextInt(3));
                break;
        }
    }

    /** How it stands, told in a text by some of the members and another pot. */
    private SpoonVotes told(int set, int inPot, int hot, int salty) {
        StringBuilder text = new StringBuilder();
        for (int i = 0; i < members; i++) {
            if ((set >> i & 1) == 0) continue;
            text.append("m" + row[i][0] + "," + row[i][1] + "," + row[i][2] + "," + row[i][3] + ";");
        }
        return Check.laid(text + "p" + inPot + "," + hot + "," + salty + ";r" + rounds + ";" + fast);
    }

    private SpoonVotes told(int inPot, int hot, int salty) {
        return told((1 << members) - 1, inPot, hot, salty);
    }

    private void due(String call, long got, long want) {
        CHECK.due("sitting " + seed + ": " + call, got, want);
    }

    private void isTrue(String claim, boolean holds) {
        CHECK.isTrue("sitting " + seed + ": " + claim, holds);
    }

    private void toldAnewAsItStands() {
        SpoonVotes x = stand();
        SpoonVotes anew = told(pot, heat, salt);
        for (int what = 0; what <= 5; what++) {
            due("told anew: count " + what, anew.count(what), x.count(what));
        }
        due("told anew: nothing eaten", anew.count(6), 0);
        for (int n = 0; n <= 20; n++) {
            due("told anew: left " + n, anew.left(n), left[n]);
        }
        due("told anew: passes", anew.passes(), x.passes());
        due("told anew: scraper", anew.scraper(), x.scraper());
        due("told anew: spoil", anew.spoil(), x.spoil());
        due("told anew: waits", anew.waits(), x.waits());
        due("told anew: most", anew.most(), x.most());
        due("told anew: fasts", anew.fasts(), x.fasts());
        due("told anew: cabal", anew.cabal(1), x.cabal(1));
        due("told anew: trades", anew.trades(), x.trades());
        due("told anew: power", anew.power(members - 1, 0), x.power(members - 1, 0));
        due("told anew: likely", anew.likely(7, 0), x.likely(7, 0));
        due("told anew: century, pot", anew.century(seed, 40, 0), x.century(seed, 40, 0));
        due("told anew: century, eaten", anew.century(seed, 40, 1) + eaten, x.century(seed, 40, 1));
        due("told anew: would eat", anew.member(0, 5), row[0][5]);
    }

    private void leftIsWhatEatLeaves() {
        for (int n = 1; n <= 20; n++) {
            SpoonVotes y = stand();
            int much = y.eat(n);
            String call = "eat " + n;
            due(call, much, pot - left[n]);
            due(call + ": pot", y.count(1), left[n]);
            due(call + ": heat", y.count(2), Math.max(0, heat - n));
            due(call + ": salt", y.count(3), salt);
            due(call + ": hunger", y.count(5), hunger - much);
            due(call + ": eaten", y.count(6), eaten + much);
            int ofEach = 0;
            for (int i = 0; i < members; i++) {
                int his = y.member(i, 4) - row[i][4];
                due(call + ": hunger of " + i, y.member(i, 2), row[i][2] - his);
                ofEach += his;
            }
            due(call + ": eaten by each", ofEach, much);
            SpoonVotes byOnes = stand();
            for (int k = 0; k < n; k++) {
                byOnes.eat(1);
            }
            due(call + ": one by one", byOnes.count(1), y.count(1));
        }
        due("left 0", left[0], pot);
    }

    private void passesIsTheFirstThatLeavesNothing() {
        SpoonVotes x = stand();
        int first = NONE;
        for (int n = rounds; n >= 0; n--) {
            if (left[n] == 0) first = n;
        }
        due("passes", x.passes(), first);
    }

    private void scraperIsWhoAteTheLast() {
        SpoonVotes x = stand();
        int scraper = NONE;
        SpoonVotes y = stand();
        for (int n = 1; n <= rounds && scraper == NONE && y.count(1) > 0; n++) {
            int[] before = eatenByEach(y);
            y.eat(1);
            int[] after = eatenByEach(y);
            for (int i = 0; i < members && y.count(1) == 0; i++) {
                if (after[i] > before[i]) scraper = i;
            }
        }
        due("scraper", x.scraper(), scraper);
    }

    private int[] eatenByEach(SpoonVotes y) {
        int[] eaten = new int[y.count(0)];
        for (int i = 0; i < eaten.length; i++) {
            eaten[i] = y.member(i, 4);
        }
        return eaten;
    }

    private void wouldEatIsWhatHeEatsAlone() {
        for (int i = 0; i < members; i++) {
            due("would eat: " + i, row[i][5], told(1 << i, pot, heat, salt).eat(1));
        }
        SpoonVotes y = stand();
        y.eat(1);
        due("the first eats what he would", y.member(0, 4) - row[0][4], row[0][5]);
    }

    private void spoiltBySoMuchSalt() {
        SpoonVotes x = stand();
        int spoilt = NONE;
        SpoonVotes y = stand();
        for (int more = 0; spoilt == NONE && more <= 9; more++) {
            if (y.passes() == NONE) spoilt = more;
            if (y.salt() == NO) break;
        }
        due("spoil", x.spoil(), spoilt);
    }

    private void passesBehindSoManyWaits() {
        SpoonVotes x = stand();
        int waited = NONE;
        SpoonVotes y = stand();
        for (int times = 0; waited == NONE && times <= 9; times++) {
            if (y.passes() != NONE) waited = times;
            y.cool();
        }
        due("waits", x.waits(), waited);
    }

    private void passesBehindSoManyFasts() {
        SpoonVotes x = stand();
        int fasted = NONE;
        SpoonVotes y = stand();
        for (int days = 0; fasted == NONE && days <= 10; days++) {
            if (y.passes() != NONE) fasted = days;
            y.fast();
        }
        due("fasts", x.fasts(), fasted);
    }

    private void mostPassesAndOneMoreDoesNot() {
        SpoonVotes x = stand();
        int most = x.most();
        isTrue("most of " + most + " passes", told(most, heat, salt).passes() != NONE);
        isTrue("most is " + most, most == 99 || told(most + 1, heat, salt).passes() == NONE);
        due("passes as most tells", passesNow ? 1 : 0, pot <= most ? 1 : 0);
    }

    private void cabalIsTheFirstOfTheFewest() {
        SpoonVotes x = stand();
        int fewest = NONE;
        for (int many = members; many >= 0; many--) {
            for (int set = lets.length - 1; set >= 0; set--) {
                if (lets[set] && Integer.bitCount(set) == many) fewest = set;
            }
        }
        due("cabal: which", x.cabal(1), fewest);
        due("cabal: how many", x.cabal(0), fewest == NONE ? NONE : Integer.bitCount(fewest));
        due("all members", lets[lets.length - 1] ? 1 : 0, passesNow ? 1 : 0);
    }

    private void tradesIsTheFirstThatHelps() {
        SpoonVotes x = stand();
        int first = NONE;
        for (int i = members - 1; i >= 0; i--) {
            for (int j = members - 1; j > i; j--) {
                SpoonVotes y = stand();
                due("trade " + i + ", " + j, y.trade(i, j), row[j][1]);
                for (int what = 0; what <= 1; what++) {
                    due("traded " + i + ": " + what, y.member(i, what), row[j][what]);
                    due("traded " + j + ": " + what, y.member(j, what), row[i][what]);
                }
                if (!passesNow && y.passes() != NONE) first = 10 * i + j;
            }
        }
        due("trades", x.trades(), first);
    }

    private void powerIsByOrders() {
        SpoonVotes x = stand();
        int[] decided = new int[members];
        int orders = join(0, decided);
        for (int i = 0; i < members; i++) {
            inLowestTerms("power of " + i, x.power(i, 0), x.power(i, 1), decided[i], orders);
        }
    }

    /** Lets one more join, in each way there is: in how many orders the rest can, and who decides in how many. */
    private int join(int joined, int[] decided) {
        if (joined == lets.length - 1) return 1;
        int orders = 0;
        for (int i = 0; i < members; i++) {
            int with = joined | 1 << i;
            if (with == joined) continue;
            int[] ofThese = new int[members];
            int these = join(with, ofThese);
            if (!lets[joined] && lets[with]) ofThese[i] += these;
            for (int k = 0; k < members; k++) {
                decided[k] += ofThese[k];
            }
            orders += these;
        }
        return orders;
    }

    private void inLowestTerms(String call, long above, long below, long dueAbove, long dueBelow) {
        due(call + ": the same part", above * dueBelow, dueAbove * below);
        isTrue(call + ": in lowest terms: " + above + " / " + below, below > 0 && divisor(above, below) == 1);
    }

    private static long divisor(long a, long b) {
        return b == 0 ? a : divisor(b, a % b);
    }

    private void likelyIsByCases() {
        SpoonVotes x = stand();
        for (int tenths = 0; tenths <= 10; tenths++) {
            long cases = 0;
            long all = 1;
            for (int i = 0; i < members; i++) {
                all *= 10;
            }
            for (int set = 0; set < lets.length; set++) {
                long these = 1;
                for (int i = 0; i < members; i++) {
                    these *= (set >> i & 1) == 1 ? tenths : 10 - tenths;
                }
                if (lets[set]) cases += these;
            }
            inLowestTerms("likely by " + tenths, x.likely(tenths, 0), x.likely(tenths, 1), cases, all);
        }
        due("likely by 10 is whether it passes", x.likely(10, 0), passesNow ? 1 : 0);
        due("likely by 0 is whether the pot is empty", x.likely(0, 0), pot == 0 ? 1 : 0);
    }

    private void mayIsWhatIsEatenThen() {
        SpoonVotes x = stand();
        SpoonVotes y = stand();
        y.eat(1);
        int[] then = eatenByEach(y);
        for (int i = 0; i < Math.min(6, members); i++) {
            then[i] -= row[i][4];
            due("may be as it will, " + i, x.may(0) >> salt & x.may(1) >> heat & 1, 1);
            x.seen(i, then[i]);
            int salts = 0;
            int heats = 0;
            for (int value = 0; value <= 9; value++) {
                if (areEaten(told(pot, heat, value), then, i)) salts |= 1 << value;
                if (areEaten(told(pot, value, salt), then, i)) heats |= 1 << value;
            }
            due("salts by what 0 to " + i + " eat", x.may(0), salts);
            due("heats by what 0 to " + i + " eat", x.may(1), heats);
        }
        due("all may be as it will", x.may(0) >> salt & x.may(1) >> heat & 1, 1);
    }

    /** Whether in a round of z the first ones, to the last, eat as much as then. */
    private boolean areEaten(SpoonVotes z, int[] then, int last) {
        z.eat(1);
        for (int i = 0; i <= last; i++) {
            if (z.member(i, 4) != then[i]) return false;
        }
        return true;
    }

    private void centuryIsLivedByCalls() {
        SpoonVotes x = stand();
        int z = new Random(seed).nextInt(10000);
        SpoonVotes y = stand();
        for (int time = 0; time < 40; time++) {
            long number = 7919L * z + 6151L * time + 1;
            int draw = (int) (number * number % 65521) / 8;
            int rest = draw / 4;
            switch (draw % 4) {
                case 0:
                    y.eat(1);
                    break;
                case 1:
                    // cook refuses what is no more than there is, and 0.
                    y.cook(rest % 60);
                    break;
                case 2:
                    if (rest % 3 == 0) y.salt();
                    break;
                default:
                    y.fast();
                    break;
            }
            due("century " + z + ": pot behind " + time, x.century(z, time + 1, 0), y.count(1));
            due("century " + z + ": eaten behind " + time, x.century(z, time + 1, 1), y.count(6));
        }
    }

    private void undoneAndBackIsAsItWas() {
        SpoonVotes y = stand();
        int actsAhead = y.count(8);
        List<Integer> before = allOf(y);
        y.keep();
        Random random = new Random(seed + 1000);
        for (int acts = 0; acts < 8; acts++) {
            act(y, random, members);
        }
        int acts = y.count(8) - actsAhead;
        if (y.count(8) < 8) {
            for (int left = y.count(8) - 1; left >= actsAhead; left--) {
                due("undo", y.undo(), left);
            }
            isTrue("all " + acts + " acts undone: " + before + ", " + allOf(y), before.equals(allOf(y)));
        }
        act(y, random, members);
        due("back", y.back(), 0);
        isTrue("back is as kept: " + before + ", " + allOf(y), before.equals(allOf(y)));
        due("nothing is undone then", y.undo(), NO);
    }

    private List<Integer> allOf(SpoonVotes y) {
        List<Integer> all = new ArrayList<>();
        for (int what = 0; what <= 6; what++) {
            all.add(y.count(what));
        }
        for (int i = 0; i < members; i++) {
            for (int what = 0; what <= 5; what++) {
                all.add(y.member(i, what));
            }
        }
        for (int n = 0; n <= 20; n++) {
            all.add(y.left(n));
        }
        return all;
    }
}
