import java.util.ArrayDeque;
import java.util.ArrayList;
import java.util.Arrays;
import java.util.List;
import java.util.regex.Matcher;
import java.util.regex.Pattern;

/**
 * The document told once more, in another way: every question is answered by eating it out,
 * every set and every order is tried. The random runs hold the class against it.
 */
final class Model {
    private static final int BAD = -1, NO = -2, FULL = -3, NONE = -4;
    private static final Pattern ITEM = Pattern.compile("([mprf])(\\d{1,2}(?:,\\d{1,2})*);");
    private static final String FIRST =
            "m0,3,12,6;m1,4,20,3;m2,2,9,5;m3,5,30,9;m0,1,8,2;p40,6,2;r5;f6;";

    static final class Eater {
        int kind, spoon, hunger, bears, eaten;

        Eater copy() {
            Eater other = new Eater();
            other.kind = kind;
            other.spoon = spoon;
            other.hunger = hunger;
            other.bears = bears;
            other.eaten = eaten;
            return other;
        }

        int wants(int heat, int salt) {
            if (salt > bears) return 0;
            if (kind == 1 && heat > 4 || kind == 2 && heat > 7 || kind == 3 && heat > 8) return 0;
            int takes = kind == 2 ? spoon + spoon : kind == 3 ? 1 : spoon;
            return takes > hunger ? hunger : takes;
        }
    }

    static final class World {
        final List<Eater> eaters = new ArrayList<>();
        int pot = 30, heat = 4, salt = 1, rounds = 5, fast = 6;
        int scraper = NONE;

        World copy() {
            World other = new World();
            for (Eater eater : eaters) other.eaters.add(eater.copy());
            other.pot = pot;
            other.heat = heat;
            other.salt = salt;
            other.rounds = rounds;
            other.fast = fast;
            return other;
        }

        void round(int set) {
            for (int i = 0; i < eaters.size(); i++) {
                if ((set & 1 << i) == 0) continue;
                Eater eater = eaters.get(i);
                int much = eater.wants(heat, salt);
                if (much >= pot) {
                    if (pot > 0) scraper = i;
                    much = pot;
                }
                pot -= much;
                eater.hunger -= much;
                eater.eaten += much;
            }
            if (heat > 0) heat--;
        }

        int passesBy(int set) {
            World other = copy();
            for (int n = 0; n <= rounds; n++) {
                if (other.pot == 0) return n;
                other.round(set);
            }
            return NONE;
        }

        int passes() {
            return passesBy(-1);
        }

        boolean isPassed() {
            return passes() != NONE;
        }

        World fasted() {
            World other = copy();
            for (Eater eater : other.eaters) eater.hunger = Math.min(60, eater.hunger + fast);
            other.heat = 0;
            return other;
        }

        World traded(int i, int j) {
            World other = copy();
            Eater a = other.eaters.get(i);
            Eater b = other.eaters.get(j);
            a.kind = eaters.get(j).kind;
            a.spoon = eaters.get(j).spoon;
            b.kind = eaters.get(i).kind;
            b.spoon = eaters.get(i).spoon;
            return other;
        }

        int hunger() {
            return eaters.stream().mapToInt(eater -> eater.hunger).sum();
        }

        int eaten() {
            return eaters.stream().mapToInt(eater -> eater.eaten).sum();
        }
    }

    private String text = "";
    private World now = read(FIRST);
    private final List<int[]> seen = new ArrayList<>();
    private final ArrayDeque<World> undoable = new ArrayDeque<>();
    private final ArrayDeque<World> kept = new ArrayDeque<>();
    private int faultFound;

    private World read(String letters) {
        World world = new World();
        Matcher matcher = ITEM.matcher(letters);
        int place = 0;
        faultFound = NONE;
        while (place < letters.length()) {
            matcher.region(place, letters.length());
            if (!matcher.lookingAt() || !take(world, matcher.group(1), matcher.group(2))) {
                faultFound = place;
                return world;
            }
            place = matcher.end();
        }
        return world;
    }

    private static boolean take(World world, String letter, String list) {
        int[] n = Arrays.stream(list.split(",")).mapToInt(Integer::parseInt).toArray();
        switch (letter) {
            case "m":
                if (n.length != 4 || n[0] > 3 || n[1] == 0 || n[1] > 9 || n[2] > 60 || n[3] > 9
                        || world.eaters.size() == 7) {
                    return false;
                }
                Eater eater = new Eater();
                eater.kind = n[0];
                eater.spoon = n[1];
                eater.hunger = n[2];
                eater.bears = n[3];
                world.eaters.add(eater);
                return true;
            case "p":
                if (n.length != 3 || n[1] > 9 || n[2] > 9) return false;
                world.pot = n[0];
                world.heat = n[1];
                world.salt = n[2];
                return true;
            case "r":
                if (n.length != 1 || n[0] == 0 || n[0] > 20) return false;
                world.rounds = n[0];
                return true;
            default:
                if (n.length != 1 || n[0] == 0 || n[0] > 20) return false;
                world.fast = n[0];
                return true;
        }
    }

    private boolean noMember(int i) {
        return i < 0 || i >= now.eaters.size();
    }

    private void act(World next) {
        undoable.addLast(now);
        if (undoable.size() > 8) undoable.removeFirst();
        now = next;
    }

    int write(int letter) {
        if (letter < 32 || letter > 126) return BAD;
        if (text.length() == 200) return FULL;
        text += (char) letter;
        return text.length();
    }

    int wipe() {
        int length = text.length();
        text = "";
        return length;
    }

    int fault() {
        read(text);
        return faultFound;
    }

    int lay() {
        World world = read(text);
        if (faultFound != NONE || world.eaters.isEmpty()) return NO;
        now = world;
        seen.clear();
        undoable.clear();
        kept.clear();
        return now.eaters.size();
    }

    int member(int i, int what) {
        if (noMember(i) || what < 0 || what > 5) return BAD;
        Eater eater = now.eaters.get(i);
        int first = Math.min(now.pot, eater.wants(now.heat, now.salt));
        return new int[] {eater.kind, eater.spoon, eater.hunger, eater.bears, eater.eaten, first}[what];
    }

    int eat(int n) {
        if (n < 1 || n > 20) return BAD;
        World next = now.copy();
        for (int k = 0; k < n; k++) next.round(-1);
        int much = now.pot - next.pot;
        act(next);
        return much;
    }

    int salt() {
        if (now.salt == 9) return NO;
        World next = now.copy();
        next.salt++;
        act(next);
        return now.salt;
    }

    int cook(int a) {
        if (a < 1 || a > 99) return BAD;
        if (a <= now.pot) return NO;
        World next = now.copy();
        next.pot = a;
        next.heat = 9;
        act(next);
        return a;
    }

    int cool() {
        if (now.heat == 0) return NO;
        World next = now.copy();
        next.heat--;
        act(next);
        return now.heat;
    }

    int trade(int i, int j) {
        if (noMember(i) || noMember(j) || i == j) return BAD;
        act(now.traded(i, j));
        return now.eaters.get(i).spoon;
    }

    int fast() {
        act(now.fasted());
        return now.hunger();
    }

    int undo() {
        if (undoable.isEmpty()) return NO;
        now = undoable.removeLast();
        return undoable.size();
    }

    int passes() {
        return now.passes();
    }

    int left(int n) {
        if (n < 0 || n > 20) return BAD;
        World other = now.copy();
        for (int k = 0; k < n; k++) other.round(-1);
        return other.pot;
    }

    int scraper() {
        World other = now.copy();
        for (int k = 0; k < now.rounds; k++) other.round(-1);
        return other.scraper;
    }

    int spoil() {
        World other = now.copy();
        for (; other.salt <= 9; other.salt++) {
            if (!other.isPassed()) return other.salt - now.salt;
        }
        return NONE;
    }

    int waits() {
        World other = now.copy();
        for (int k = 0; k <= 9; k++) {
            if (other.isPassed()) return k;
            other.heat = Math.max(0, other.heat - 1);
        }
        return NONE;
    }

    int most() {
        World other = now.copy();
        for (other.pot = 99; !other.isPassed(); ) other.pot--;
        return other.pot;
    }

    int fasts() {
        World other = now;
        for (int k = 0; k <= 10; k++) {
            if (other.isPassed()) return k;
            other = other.fasted();
        }
        return NONE;
    }

    int cabal(int what) {
        if (what < 0 || what > 1) return BAD;
        int members = now.eaters.size();
        for (int size = 0; size <= members; size++) {
            for (int set = 0; set < 1 << members; set++) {
                if (Integer.bitCount(set) == size && now.passesBy(set) != NONE) {
                    return what == 0 ? size : set;
                }
            }
        }
        return NONE;
    }

    int trades() {
        if (now.isPassed()) return NONE;
        for (int i = 0; i < now.eaters.size(); i++) {
            for (int j = i + 1; j < now.eaters.size(); j++) {
                if (now.traded(i, j).isPassed()) return 10 * i + j;
            }
        }
        return NONE;
    }

    private boolean[] passing() {
        boolean[] passing = new boolean[1 << now.eaters.size()];
        for (int set = 0; set < passing.length; set++) passing[set] = now.passesBy(set) != NONE;
        return passing;
    }

    private static int gcd(int a, int b) {
        return b == 0 ? a : gcd(b, a % b);
    }

    private static int lowest(int above, int below, int part) {
        return (part == 0 ? above : below) / gcd(above, below);
    }

    int power(int i, int part) {
        if (noMember(i) || part < 0 || part > 1) return BAD;
        int[] orders = new int[2];
        join(passing(), 0, i, orders);
        return lowest(orders[0], orders[1], part);
    }

    /** Goes through every order: orders[0] those in which i decides, orders[1] all. */
    private void join(boolean[] passing, int joined, int i, int[] orders) {
        join(passing, joined, i, false, orders);
    }

    private void join(boolean[] passing, int joined, int i, boolean decided, int[] orders) {
        if (joined == passing.length - 1) {
            orders[1]++;
            if (decided) orders[0]++;
            return;
        }
        for (int k = 0; k < now.eaters.size(); k++) {
            int with = joined | 1 << k;
            if (with == joined) continue;
            join(passing, with, i, decided || k == i && !passing[joined] && passing[with], orders);
        }
    }

    int seen(int i, int n) {
        if (noMember(i) || n < 0 || n > 18) return BAD;
        if (seen.size() == 6) return FULL;
        seen.add(new int[] {i, n});
        return seen.size();
    }

    int forget() {
        int many = seen.size();
        seen.clear();
        return many;
    }

    int may(int what) {
        if (what < 0 || what > 1) return BAD;
        int bits = 0;
        for (int value = 9; value >= 0; value--) {
            World other = now.copy();
            if (what == 0) other.salt = value;
            if (what == 1) other.heat = value;
            other.round(-1);
            boolean all = true;
            for (int[] one : seen) {
                int hungrier = now.eaters.get(one[0]).hunger - other.eaters.get(one[0]).hunger;
                all &= hungrier == one[1];
            }
            bits = 2 * bits + (all ? 1 : 0);
        }
        return bits;
    }

    int likely(int x, int part) {
        if (x < 0 || x > 10 || part < 0 || part > 1) return BAD;
        boolean[] passing = passing();
        int above = 0;
        int below = 0;
        for (int set = 0; set < passing.length; set++) {
            int there = Integer.bitCount(set);
            int ways = power10(x, there) * power10(10 - x, now.eaters.size() - there);
            below += ways;
            if (passing[set]) above += ways;
        }
        return lowest(above, below, part);
    }

    private static int power10(int base, int times) {
        return times == 0 ? 1 : base * power10(base, times - 1);
    }

    int century(int z, int n, int what) {
        if (z < 0 || z > 9999 || n < 1 || n > 40 || what < 0 || what > 1) return BAD;
        World world = now.copy();
        for (int time = 0; time < n; time++) {
            long x = (7919L * z + 6151L * time + 1) % 65521;
            int draw = (int) (x * x % 65521) / 8;
            int by4 = draw / 4;
            if (draw % 4 == 0) world.round(-1);
            if (draw % 4 == 1 && by4 % 60 > world.pot) {
                world.pot = by4 % 60;
                world.heat = 9;
            }
            if (draw % 4 == 2 && by4 % 3 == 0 && world.salt < 9) world.salt++;
            if (draw % 4 == 3) world = world.fasted();
        }
        return what == 0 ? world.pot : world.eaten();
    }

    int keep() {
        if (kept.size() == 2) return FULL;
        kept.addLast(now);
        return kept.size();
    }

    int back() {
        if (kept.isEmpty()) return NO;
        now = kept.removeLast();
        undoable.clear();
        return kept.size();
    }

    int count(int what) {
        if (what < 0 || what > 10) return BAD;
        return new int[] {now.eaters.size(), now.pot, now.heat, now.salt, now.rounds, now.hunger(),
            now.eaten(), seen.size(), undoable.size(), kept.size(), text.length()}[what];
    }
}
