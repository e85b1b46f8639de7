/** Promises 24 to 26: what was seen, and what may be so by it. */
public final class SeenTest {
    private static final int BAD = -1, FULL = -3;
    private static final Check CHECK = new Check();

    public static void main(String[] args) {
        promise24Seen();
        promise24SeenBad();
        promise25Forget();
        promise26MaySalt();
        promise26MayHeat();
        promise26MayAsAllStandsWhenAsked();
        promise26MayBad();
        CHECK.finish("what was seen");
    }

    private static void promise24Seen() {
        SpoonVotes x = new SpoonVotes();
        CHECK.due("seen", x.seen(0, 0), 1);
        CHECK.due("seen the most", x.seen(4, 18), 2);
        CHECK.due("seen once more", x.seen(0, 0), 3);
        CHECK.due("seen otherwise", x.seen(0, 1), 4);
        CHECK.due("seen a fifth", x.seen(1, 1), 5);
        CHECK.due("seen a sixth", x.seen(2, 1), 6);
        CHECK.due("seen a seventh", x.seen(3, 1), FULL);
        CHECK.due("seen: how many", x.count(7), 6);
        CHECK.due("seen: no act", x.count(8), 0);
    }

    private static void promise24SeenBad() {
        SpoonVotes x = new SpoonVotes();
        int[][] bad = {{-1, 0}, {5, 0}, {7, 0}, {0, -1}, {0, 19}, {Integer.MIN_VALUE, 0},
            {Integer.MAX_VALUE, 0}, {0, Integer.MIN_VALUE}, {0, Integer.MAX_VALUE}};
        for (int[] pair : bad) {
            CHECK.due("seen " + pair[0] + ", " + pair[1], x.seen(pair[0], pair[1]), BAD);
        }
        CHECK.due("seen nothing", x.count(7), 0);
        for (int k = 0; k < 6; k++) {
            x.seen(0, k);
        }
        CHECK.due("seen: BAD is before FULL", x.seen(5, 0), BAD);
    }

    private static void promise25Forget() {
        SpoonVotes x = new SpoonVotes();
        CHECK.due("forget nothing", x.forget(), 0);
        x.seen(0, 17);
        x.seen(1, 17);
        CHECK.due("nothing may be so", x.may(0), 0);
        CHECK.due("forget two", x.forget(), 2);
        CHECK.due("forgotten", x.count(7), 0);
        CHECK.due("all may be", x.may(0), 1023);
        CHECK.due("seen anew", x.seen(0, 3), 1);
    }

    private static void promise26MaySalt() {
        SpoonVotes x = new SpoonVotes();
        CHECK.due("nothing is seen: salt", x.may(0), 1023);
        x.seen(0, 3);
        CHECK.due("0 ate: salt to 6", x.may(0), 127);
        x.seen(2, 0);
        CHECK.due("2 did not: salt of 6", x.may(0), 64);
        x.seen(4, 1);
        CHECK.due("4 did: no salt", x.may(0), 0);
        SpoonVotes y = Check.laid("m0,3,12,9;m0,3,12,0;p9,0,9;");
        y.seen(0, 3);
        CHECK.due("he bears all", y.may(0), 1023);
        y.seen(1, 0);
        CHECK.due("all but 0", y.may(0), 1022);
    }

    private static void promise26MayHeat() {
        SpoonVotes x = new SpoonVotes();
        CHECK.due("nothing is seen: heat", x.may(1), 1023);
        x.seen(1, 4);
        CHECK.due("silver ate: heat to 4", x.may(1), 31);
        x.forget();
        x.seen(2, 4);
        CHECK.due("the ladle took twice S: heat to 7", x.may(1), 255);
        x.seen(1, 0);
        CHECK.due("silver did not: heat from 5", x.may(1), 224);
        x.forget();
        x.seen(3, 1);
        CHECK.due("the licker ate: heat to 8", x.may(1), 511);
        x.seen(2, 0);
        CHECK.due("the ladle did not: heat of 8", x.may(1), 256);
        x.forget();
        x.seen(3, 0);
        CHECK.due("the licker did not: heat of 9", x.may(1), 512);
        x.seen(3, 1);
        CHECK.due("he did and did not", x.may(1), 0);
    }

    private static void promise26MayAsAllStandsWhenAsked() {
        // What is left for 1 hangs on whether 0, who is silver, eats before him.
        SpoonVotes x = Check.laid("m1,5,60,9;m0,9,60,9;p9,9,0;");
        x.seen(1, 4);
        CHECK.due("0 ate before", x.may(1), 31);
        CHECK.due("at any salt it is too hot", x.may(0), 0);
        x.eat(1);
        CHECK.due("asked when all is eaten", x.may(1), 0);
        x.undo();
        CHECK.due("seen is not undone", x.may(1), 31);
        SpoonVotes y = Check.laid("m0,5,8,9;p50,0,0;");
        y.seen(0, 3);
        CHECK.due("too hungry still", y.may(0), 0);
        y.eat(1);
        CHECK.due("as hungry as that", y.may(0), 1023);
        CHECK.due("may changes nothing", y.count(6), 5);
    }

    private static void promise26MayBad() {
        int[] bad = {-1, 2, Integer.MIN_VALUE, Integer.MAX_VALUE};
        for (int what : bad) {
            CHECK.due("may " + what, new SpoonVotes().may(what), BAD);
        }
    }
}
