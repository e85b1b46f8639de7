/**
 * Every number that a call takes: 0 or the least that is told, the greatest, and one beyond each; the
 * other numbers of the call at their least and at their greatest.
 */
public final class NumbersTest {
    private static final int BAD = -1;
    private static final Check CHECK = new Check();
    /** Stands for the greatest number of a MEMBER, which hangs on how many there are. */
    private static final int LAST = -7;

    private interface Ask {
        int of(SpoonVotes x, int[] n);
    }

    /** A call, and from where to where each of its numbers goes. */
    private record Call(String name, Ask ask, int[]... bounds) { }

    private static final int[] MEMBER = {0, LAST};
    private static final int[] EITHER = {0, 1};

    private static final Call[] CALLS = {
        new Call("write", (x, n) -> x.write(n[0]), new int[] {32, 126}),
        new Call("member", (x, n) -> x.member(n[0], n[1]), MEMBER, new int[] {0, 5}),
        new Call("eat", (x, n) -> x.eat(n[0]), new int[] {1, 20}),
        new Call("cook", (x, n) -> x.cook(n[0]), new int[] {1, 99}),
        new Call("trade", (x, n) -> x.trade(n[0], n[1]), MEMBER, MEMBER),
        new Call("left", (x, n) -> x.left(n[0]), new int[] {0, 20}),
        new Call("cabal", (x, n) -> x.cabal(n[0]), EITHER),
        new Call("power", (x, n) -> x.power(n[0], n[1]), MEMBER, EITHER),
        new Call("seen", (x, n) -> x.seen(n[0], n[1]), MEMBER, new int[] {0, 18}),
        new Call("may", (x, n) -> x.may(n[0]), EITHER),
        new Call("likely", (x, n) -> x.likely(n[0], n[1]), new int[] {0, 10}, EITHER),
        new Call("century", (x, n) -> x.century(n[0], n[1], n[2]), new int[] {0, 9999}, new int[] {1, 40}, EITHER),
        new Call("count", (x, n) -> x.count(n[0]), new int[] {0, 10}),
    };

    public static void main(String[] args) {
        for (int members = 1; members <= 7; members++) {
            for (Call call : CALLS) {
                numbersOf(call, members, "p50,9,0;");
                numbersOf(call, members, "p0,0,9;");
                numbersOf(call, members, "p99,4,5;r20;");
            }
        }
        CHECK.finish("numbers");
    }

    private static void numbersOf(Call call, int members, String pot) {
        String text = "m0,9,60,9;".repeat(members) + pot;
        int many = call.bounds.length;
        // Bit k tells whether number k is at its greatest.
        for (int corner = 0; corner < 1 << many; corner++) {
            int[] numbers = new int[many];
            for (int k = 0; k < many; k++) {
                numbers[k] = (corner >> k & 1) == 0 ? call.bounds[k][0] : greatest(call, k, members);
            }
            answers(call, text, numbers, call.name.equals("trade") && numbers[0] == numbers[1]);
            for (int k = 0; k < many; k++) {
                beyond(call, text, numbers, k, members);
            }
        }
    }

    private static void beyond(Call call, String text, int[] numbers, int k, int members) {
        int least = call.bounds[k][0];
        int greatest = greatest(call, k, members);
        int[] none = {least - 1, greatest + 1, least - 65536, greatest + 65536, greatest + 256,
            Integer.MIN_VALUE, Integer.MIN_VALUE + least, Integer.MAX_VALUE};
        for (int number : none) {
            int[] others = numbers.clone();
            others[k] = number;
            answers(call, text, others, true);
        }
    }

    private static int greatest(Call call, int k, int members) {
        return call.bounds[k][1] == LAST ? members - 1 : call.bounds[k][1];
    }

    private static void answers(Call call, String text, int[] numbers, boolean isBad) {
        int answer = call.ask.of(Check.laid(text), numbers);
        StringBuilder told = new StringBuilder(call.name);
        for (int number : numbers) {
            told.append(' ').append(number);
        }
        CHECK.isTrue(told + " answers " + answer + " where " + text + " is laid", (answer == BAD) == isBad);
    }
}
