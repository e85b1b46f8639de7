/** An assembly that votes by eating: one pot, and members with the spoons they were born with. */
public final class SpoonVotes {
    public static final int BAD = -1, NO = -2, FULL = -3, NONE = -4;

    private static final String FIRST_TEXT =
            "m0,3,12,6;m1,4,20,3;m2,2,9,5;m3,5,30,9;m0,1,8,2;p40,6,2;r5;f6;";
    private static final int WOODEN = 0, SILVER = 1, LADLE = 2, LICKER = 3;
    private static final int MOST_LETTERS = 200, MOST_MEMBERS = 7, MOST_ROUNDS = 20;
    private static final int MOST_IN_POT = 99, HOTTEST = 9, SALTIEST = 9;
    private static final int LONGEST_SPOON = 9, HUNGRIEST = 60, MOST_FAST_HUNGER = 20;
    private static final int MOST_WAITS = 9, MOST_FAST_DAYS = 10;
    private static final int MOST_SEEN = 6, MOST_SEEN_EATEN = 18, MOST_UNDONE = 8, MOST_KEPT = 2;
    private static final int CERTAIN = 10, LAST_CENTURY = 9999, LONGEST_CENTURY = 40;

    private final Text text = new Text();
    private final Sitting now = new Sitting();
    /** What questions are tried on, so that no call makes an object. */
    private final Sitting trial = new Sitting();
    private final Sets sets = new Sets();
    private final Sightings sightings = new Sightings();
    private final Pile undoable = new Pile(MOST_UNDONE);
    private final Pile kept = new Pile(MOST_KEPT);

    public SpoonVotes() {
        for (int place = 0; place < FIRST_TEXT.length(); place++) {
            text.append(FIRST_TEXT.charAt(place));
        }
        text.layOut(now);
        text.clear();
    }

    // ---- sittings

    public int write(int letter) {
        if (isOutside(letter, 32, 126)) {
            return BAD;
        }
        return text.append((char) letter) ? text.length : FULL;
    }

    public int wipe() {
        int length = text.length;
        text.clear();
        return length;
    }

    public int fault() {
        return text.layOut(trial);
    }

    public int lay() {
        if (text.layOut(trial) != NONE || trial.members == 0) {
            return NO;
        }
        now.takeOver(trial);
        sightings.clear();
        undoable.clear();
        kept.clear();
        return now.members;
    }

    public int member(int i, int what) {
        if (isNoMember(i)) {
            return BAD;
        }
        switch (what) {
            case 0:
                return now.kind[i];
            case 1:
                return now.spoon[i];
            case 2:
                return now.hunger[i];
            case 3:
                return now.bears[i];
            case 4:
                return now.eaten[i];
            case 5:
                return now.share(i);
            default:
                return BAD;
        }
    }

    // ---- acts

    public int eat(int n) {
        if (isOutside(n, 1, MOST_ROUNDS)) {
            return BAD;
        }
        undoable.put(now);
        int before = now.amount;
        now.eatRounds(n);
        return before - now.amount;
    }

    public int salt() {
        if (now.salt >= SALTIEST) {
            return NO;
        }
        undoable.put(now);
        now.putSalt();
        return now.salt;
    }

    public int cook(int a) {
        if (isOutside(a, 1, MOST_IN_POT)) {
            return BAD;
        }
        if (a <= now.amount) {
            return NO;
        }
        undoable.put(now);
        now.cookTo(a);
        return now.amount;
    }

    public int cool() {
        if (now.heat <= 0) {
            return NO;
        }
        undoable.put(now);
        now.waitOnce();
        return now.heat;
    }

    public int trade(int i, int j) {
        if (isNoMember(i) || isNoMember(j) || i == j) {
            return BAD;
        }
        undoable.put(now);
        now.exchangeSpoons(i, j);
        return now.spoon[i];
    }

    public int fast() {
        undoable.put(now);
        now.fastDay();
        return now.hungerOfAll();
    }

    public int undo() {
        return undoable.takeLast(now) ? undoable.many : NO;
    }

    // ---- what comes

    public int passes() {
        trial.takeOver(now);
        return trial.roundsUntilEmpty();
    }

    public int left(int n) {
        if (isOutside(n, 0, MOST_ROUNDS)) {
            return BAD;
        }
        trial.takeOver(now);
        trial.eatRounds(n);
        return trial.amount;
    }

    public int scraper() {
        trial.takeOver(now);
        return trial.eatRounds(now.rounds);
    }

    public int spoil() {
        trial.takeOver(now);
        for (int more = 0; now.salt + more <= SALTIEST; more++) {
            trial.salt = now.salt + more;
            if (!trial.wouldPass()) {
                return more;
            }
        }
        return NONE;
    }

    public int waits() {
        trial.takeOver(now);
        for (int waited = 0; waited <= MOST_WAITS; waited++) {
            if (trial.wouldPass()) {
                return waited;
            }
            trial.waitOnce();
        }
        return NONE;
    }

    public int most() {
        return Math.min(MOST_IN_POT, now.reachOfAll());
    }

    public int fasts() {
        trial.takeOver(now);
        for (int days = 0; days <= MOST_FAST_DAYS; days++) {
            if (trial.wouldPass()) {
                return days;
            }
            trial.fastDay();
        }
        return NONE;
    }

    public int cabal(int what) {
        if (isOutside(what, 0, 1)) {
            return BAD;
        }
        sets.measure(now);
        int set = sets.fewest();
        if (set == NONE) {
            return NONE;
        }
        return what == 0 ? Integer.bitCount(set) : set;
    }

    public int trades() {
        if (now.wouldPass()) {
            return NONE;
        }
        for (int i = 0; i < now.members; i++) {
            for (int j = i + 1; j < now.members; j++) {
                trial.takeOver(now);
                trial.exchangeSpoons(i, j);
                if (trial.wouldPass()) {
                    return 10 * i + j;
                }
            }
        }
        return NONE;
    }

    public int power(int i, int part) {
        if (isNoMember(i) || isOutside(part, 0, 1)) {
            return BAD;
        }
        sets.measure(now);
        return inLowestTerms(sets.ordersDecidedBy(i), sets.orders(), part);
    }

    // ---- what was seen

    public int seen(int i, int n) {
        if (isNoMember(i) || isOutside(n, 0, MOST_SEEN_EATEN)) {
            return BAD;
        }
        return sightings.add(i, n) ? sightings.many : FULL;
    }

    public int forget() {
        int many = sightings.many;
        sightings.clear();
        return many;
    }

    public int may(int what) {
        if (isOutside(what, 0, 1)) {
            return BAD;
        }
        int bits = 0;
        for (int value = 0; value <= 9; value++) {
            trial.takeOver(now);
            if (what == 0) {
                trial.salt = value;
            } else {
                trial.heat = value;
            }
            trial.eatRound();
            if (sightings.allSoBetween(now, trial)) {
                bits |= 1 << value;
            }
        }
        return bits;
    }

    // ---- chances, centuries

    public int likely(int x, int part) {
        if (isOutside(x, 0, CERTAIN) || isOutside(part, 0, 1)) {
            return BAD;
        }
        sets.measure(now);
        return inLowestTerms(sets.passingCasesBy(x), sets.cases(), part);
    }

    public int century(int z, int n, int what) {
        if (isOutside(z, 0, LAST_CENTURY) || isOutside(n, 1, LONGEST_CENTURY)
                || isOutside(what, 0, 1)) {
            return BAD;
        }
        trial.takeOver(now);
        for (int time = 0; time < n; time++) {
            trial.liveBy(draw(z, time));
        }
        return what == 0 ? trial.amount : trial.eatenInAll();
    }

    // ---- kept

    public int keep() {
        if (kept.many >= MOST_KEPT) {
            return FULL;
        }
        kept.put(now);
        return kept.many;
    }

    public int back() {
        if (!kept.takeLast(now)) {
            return NO;
        }
        undoable.clear();
        return kept.many;
    }

    public int count(int what) {
        switch (what) {
            case 0:
                return now.members;
            case 1:
                return now.amount;
            case 2:
                return now.heat;
            case 3:
                return now.salt;
            case 4:
                return now.rounds;
            case 5:
                return now.hungerOfAll();
            case 6:
                return now.eatenInAll();
            case 7:
                return sightings.many;
            case 8:
                return undoable.many;
            case 9:
                return kept.many;
            case 10:
                return text.length;
            default:
                return BAD;
        }
    }

    private boolean isNoMember(int i) {
        return isOutside(i, 0, now.members - 1);
    }

    private static boolean isOutside(int number, int lowest, int highest) {
        return number < lowest || number > highest;
    }

    private static int draw(int z, int time) {
        // The square of x is beyond an int.
        long x = 7919L * z + 6151L * time + 1;
        return (int) (x * x % 65521 / 8);
    }

    /** What stands above (part 0) or below (part 1) in above / below. */
    private static int inLowestTerms(int above, int below, int part) {
        int divisor = commonDivisor(above, below);
        if (divisor == 0) {
            return 0;
        }
        return (part == 0 ? above : below) / divisor;
    }

    private static int commonDivisor(int a, int b) {
        int divisor = a;
        int rest = b;
        // Euclid's steps on two ints are never more than 50.
        for (int step = 0; step < 64 && rest != 0; step++) {
            int next = divisor % rest;
            divisor = rest;
            rest = next;
        }
        return divisor;
    }

    /** THE TEXT, and how it is read. */
    private static final class Text {
        private static final int NOT_SO = -1;

        private final char[] letters = new char[MOST_LETTERS];
        /** Those of the item read last. */
        private final int[] numbers = new int[4];
        int length;

        void clear() {
            length = 0;
        }

        boolean append(char letter) {
            if (length < 0 || length >= letters.length) {
                return false;
            }
            letters[length] = letter;
            length++;
            return true;
        }

        /** Lays in draft what the text tells: the place of its fault, or NONE. */
        int layOut(Sitting draft) {
            draft.clear();
            int place = 0;
            for (int item = 0; item < MOST_LETTERS && place < length; item++) {
                int end = readItem(place);
                if (end == NOT_SO || !isTaken(at(place), draft)) {
                    return place;
                }
                place = end;
            }
            return NONE;
        }

        /** The place behind the item that starts there, or NOT_SO. */
        private int readItem(int start) {
            int many = numbersBehind(at(start));
            int place = start + 1;
            for (int k = 0; k < many && k < numbers.length; k++) {
                int figures = figuresAt(place);
                if (figures == 0) {
                    return NOT_SO;
                }
                numbers[k] = figures == 1 ? figure(place) : 10 * figure(place) + figure(place + 1);
                place += figures;
                char parting = k + 1 < many ? ',' : ';';
                if (at(place) != parting) {
                    return NOT_SO;
                }
                place++;
            }
            return many == 0 ? NOT_SO : place;
        }

        /** Whether the numbers read last are such as an item of this letter has. */
        private boolean isTaken(char letter, Sitting draft) {
            if (letter == 'm') {
                return draft.takeMember(numbers[0], numbers[1], numbers[2], numbers[3]);
            }
            if (letter == 'p') {
                return draft.takePot(numbers[0], numbers[1], numbers[2]);
            }
            if (letter == 'r') {
                return draft.takeRounds(numbers[0]);
            }
            return letter == 'f' && draft.takeFastHunger(numbers[0]);
        }

        private static int numbersBehind(char letter) {
            if (letter == 'm') {
                return 4;
            }
            if (letter == 'p') {
                return 3;
            }
            return letter == 'r' || letter == 'f' ? 1 : 0;
        }

        private int figuresAt(int place) {
            if (!isFigure(place)) {
                return 0;
            }
            return isFigure(place + 1) ? 2 : 1;
        }

        private boolean isFigure(int place) {
            return at(place) >= '0' && at(place) <= '9';
        }

        private int figure(int place) {
            return at(place) - '0';
        }

        /** The letter there; behind the last one a sign that no text has. */
        private char at(int place) {
            if (place < 0 || place >= length || place >= letters.length) {
                return 0;
            }
            return letters[place];
        }
    }

    /** All as it stands, but the text and what is seen. */
    private static final class Sitting {
        final int[] kind = new int[MOST_MEMBERS];
        final int[] spoon = new int[MOST_MEMBERS];
        final int[] hunger = new int[MOST_MEMBERS];
        final int[] bears = new int[MOST_MEMBERS];
        final int[] eaten = new int[MOST_MEMBERS];
        int members;
        int amount;
        int heat;
        int salt;
        int rounds;
        int fastHunger;

        void clear() {
            members = 0;
            amount = 30;
            heat = 4;
            salt = 1;
            rounds = 5;
            fastHunger = 6;
        }

        boolean takeMember(int itsKind, int itsSpoon, int itsHunger, int itsSalt) {
            if (isOutside(itsKind, WOODEN, LICKER) || isOutside(itsSpoon, 1, LONGEST_SPOON)
                    || isOutside(itsHunger, 0, HUNGRIEST) || isOutside(itsSalt, 0, SALTIEST)
                    || isOutside(members, 0, MOST_MEMBERS - 1)) {
                return false;
            }
            kind[members] = itsKind;
            spoon[members] = itsSpoon;
            hunger[members] = itsHunger;
            bears[members] = itsSalt;
            eaten[members] = 0;
            members++;
            return true;
        }

        boolean takePot(int itsAmount, int itsHeat, int itsSalt) {
            if (isOutside(itsAmount, 0, MOST_IN_POT) || isOutside(itsHeat, 0, HOTTEST)
                    || isOutside(itsSalt, 0, SALTIEST)) {
                return false;
            }
            amount = itsAmount;
            heat = itsHeat;
            salt = itsSalt;
            return true;
        }

        boolean takeRounds(int many) {
            if (isOutside(many, 1, MOST_ROUNDS)) {
                return false;
            }
            rounds = many;
            return true;
        }

        boolean takeFastHunger(int much) {
            if (isOutside(much, 1, MOST_FAST_HUNGER)) {
                return false;
            }
            fastHunger = much;
            return true;
        }

        void takeOver(Sitting from) {
            System.arraycopy(from.kind, 0, kind, 0, MOST_MEMBERS);
            System.arraycopy(from.spoon, 0, spoon, 0, MOST_MEMBERS);
            System.arraycopy(from.hunger, 0, hunger, 0, MOST_MEMBERS);
            System.arraycopy(from.bears, 0, bears, 0, MOST_MEMBERS);
            System.arraycopy(from.eaten, 0, eaten, 0, MOST_MEMBERS);
            members = from.members;
            amount = from.amount;
            heat = from.heat;
            salt = from.salt;
            rounds = from.rounds;
            fastHunger = from.fastHunger;
        }

        /** What member i would eat now, if it were his turn. */
        int share(int i) {
            return Math.min(Math.min(spoonful(i, heat), hunger[i]), amount);
        }

        private int spoonful(int i, int atHeat) {
            if (salt > bears[i] || atHeat > hottestFor(kind[i])) {
                return 0;
            }
            switch (kind[i]) {
                case LADLE:
                    return 2 * spoon[i];
                case LICKER:
                    return 1;
                default:
                    return spoon[i];
            }
        }

        private static int hottestFor(int itsKind) {
            switch (itsKind) {
                case SILVER:
                    return 4;
                case LADLE:
                    return 7;
                case LICKER:
                    return 8;
                default:
                    return HOTTEST;
            }
        }

        /** Who scrapes in it, or NONE. */
        int eatRound() {
            int scraping = NONE;
            for (int i = 0; i < members; i++) {
                int much = share(i);
                if (much > 0 && much == amount) {
                    scraping = i;
                }
                amount -= much;
                hunger[i] -= much;
                eaten[i] += much;
            }
            waitOnce();
            return scraping;
        }

        /** Who scrapes in them, or NONE. */
        int eatRounds(int many) {
            int scraping = NONE;
            for (int round = 0; round < many; round++) {
                int scrapingNow = eatRound();
                if (scrapingNow != NONE) {
                    scraping = scrapingNow;
                }
            }
            return scraping;
        }

        /** Behind how many rounds, eaten here, the pot is empty, or NONE. */
        int roundsUntilEmpty() {
            for (int round = 0; round <= rounds; round++) {
                if (amount == 0) {
                    return round;
                }
                eatRound();
            }
            return NONE;
        }

        /**
         * How much member i would eat before the vote of a pot that is never empty.
         * Nobody's share hangs on the others' as long as there is enough, so these
         * tell who with whom can empty the pot, without trying each set in it.
         */
        int reach(int i) {
            int much = 0;
            for (int round = 0; round < rounds; round++) {
                much += Math.min(spoonful(i, heat - round), hunger[i] - much);
            }
            return much;
        }

        int reachOfAll() {
            int much = 0;
            for (int i = 0; i < members; i++) {
                much += reach(i);
            }
            return much;
        }

        boolean wouldPass() {
            return reachOfAll() >= amount;
        }

        void putSalt() {
            salt = Math.min(salt + 1, SALTIEST);
        }

        void cookTo(int inAll) {
            amount = inAll;
            heat = HOTTEST;
        }

        void waitOnce() {
            heat = Math.max(heat - 1, 0);
        }

        void exchangeSpoons(int i, int j) {
            int kindOfI = kind[i];
            int spoonOfI = spoon[i];
            kind[i] = kind[j];
            spoon[i] = spoon[j];
            kind[j] = kindOfI;
            spoon[j] = spoonOfI;
        }

        void fastDay() {
            for (int i = 0; i < members; i++) {
                hunger[i] = Math.min(hunger[i] + fastHunger, HUNGRIEST);
            }
            heat = 0;
        }

        /** One time of a century. */
        void liveBy(int draw) {
            int rest = draw / 4;
            switch (draw % 4) {
                case 0:
                    eatRound();
                    break;
                case 1:
                    if (rest % 60 > amount) {
                        cookTo(rest % 60);
                    }
                    break;
                case 2:
                    if (rest % 3 == 0) {
                        putSalt();
                    }
                    break;
                default:
                    fastDay();
                    break;
            }
        }

        int hungerOfAll() {
            return sum(hunger);
        }

        int eatenInAll() {
            return sum(eaten);
        }

        private int sum(int[] row) {
            int much = 0;
            for (int i = 0; i < members && i < row.length; i++) {
                much += row[i];
            }
            return much;
        }
    }

    /** Sittings one on the other; of too many the lowest is lost. */
    private static final class Pile {
        private final Sitting[] sittings;
        int many;

        Pile(int most) {
            sittings = new Sitting[Math.max(most, 1)];
            for (int k = 0; k < sittings.length; k++) {
                sittings[k] = new Sitting();
            }
        }

        void clear() {
            many = 0;
        }

        void put(Sitting sitting) {
            if (many >= sittings.length) {
                dropLowest();
            }
            sittings[many].takeOver(sitting);
            many++;
        }

        private void dropLowest() {
            Sitting lowest = sittings[0];
            for (int k = 1; k < sittings.length; k++) {
                sittings[k - 1] = sittings[k];
            }
            many = sittings.length - 1;
            // Its rows are used again, as nothing is made behind the constructor.
            sittings[many] = lowest;
        }

        boolean takeLast(Sitting into) {
            if (isOutside(many, 1, sittings.length)) {
                return false;
            }
            many--;
            into.takeOver(sittings[many]);
            return true;
        }
    }

    /** What is seen: who ate how much in the next round. */
    private static final class Sightings {
        private final int[] who = new int[MOST_SEEN];
        private final int[] much = new int[MOST_SEEN];
        int many;

        void clear() {
            many = 0;
        }

        boolean add(int i, int n) {
            if (isOutside(many, 0, MOST_SEEN - 1)) {
                return false;
            }
            who[many] = i;
            much[many] = n;
            many++;
            return true;
        }

        boolean allSoBetween(Sitting before, Sitting after) {
            for (int k = 0; k < many; k++) {
                int i = who[k];
                if (after.eaten[i] - before.eaten[i] != much[k]) {
                    return false;
                }
            }
            return true;
        }
    }

    /** Sets of members, as bits, and which of them let it pass. */
    private static final class Sets {
        private final int[] reach = new int[MOST_MEMBERS];
        private int members;
        private int amount;

        void measure(Sitting sitting) {
            members = sitting.members;
            amount = sitting.amount;
            for (int i = 0; i < members; i++) {
                reach[i] = sitting.reach(i);
            }
        }

        private int howMany() {
            return 1 << members;
        }

        private boolean letsPass(int set) {
            int much = 0;
            for (int i = 0; i < members; i++) {
                if (isIn(set, i)) {
                    much += reach[i];
                }
            }
            return much >= amount;
        }

        private static boolean isIn(int set, int i) {
            return (set >> i & 1) == 1;
        }

        /** The lowest of those of fewest that let it pass, or NONE. */
        int fewest() {
            int best = NONE;
            for (int set = 0; set < howMany(); set++) {
                if (letsPass(set)
                        && (best == NONE || Integer.bitCount(set) < Integer.bitCount(best))) {
                    best = set;
                }
            }
            return best;
        }

        int orders() {
            return factorial(members);
        }

        /** In how many orders i is the one by whose joining it is passed. */
        int ordersDecidedBy(int i) {
            int many = 0;
            for (int set = 0; set < howMany(); set++) {
                if (!isIn(set, i) && !letsPass(set) && letsPass(set | 1 << i)) {
                    int before = Integer.bitCount(set);
                    many += factorial(before) * factorial(members - 1 - before);
                }
            }
            return many;
        }

        private static int factorial(int number) {
            int product = 1;
            for (int factor = 2; factor <= number; factor++) {
                product *= factor;
            }
            return product;
        }

        int cases() {
            int product = 1;
            for (int i = 0; i < members; i++) {
                product *= CERTAIN;
            }
            return product;
        }

        /** Of so many cases, those in which the ones who are there, each by x of ten, let it pass. */
        int passingCasesBy(int x) {
            int many = 0;
            for (int set = 0; set < howMany(); set++) {
                if (letsPass(set)) {
                    many += casesOf(set, x);
                }
            }
            return many;
        }

        private int casesOf(int set, int x) {
            int product = 1;
            for (int i = 0; i < members; i++) {
                product *= isIn(set, i) ? x : CERTAIN - x;
            }
            return product;
        }
    }
}
