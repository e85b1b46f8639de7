/** Promises 14 to 23: what comes of it as it stands. */
public final class ComingTest {
    private static final int BAD = -1, NONE = -4;
    private static final Check CHECK = new Check();

    public static void main(String[] args) {
        promise14Passes();
        promise15Left();
        promise16Scraper();
        promise17Spoil();
        promise18Waits();
        promise19Most();
        promise20Fasts();
        promise21Cabal();
        promise22Trades();
        promise23Power();
        promise23PowerByOrders();
        questionsChangeNothing();
        questionsHangOnNoQuestionBefore();
        CHECK.finish("what comes");
    }

    private static void promise14Passes() {
        CHECK.due("passes at first", new SpoonVotes().passes(), 5);
        CHECK.due("an empty pot", Check.laid("m0,1,0,0;p0,9,9;").passes(), 0);
        CHECK.due("in one round", Check.laid("m0,9,60,9;p9,0,0;").passes(), 1);
        CHECK.due("one too much for one", Check.laid("m0,9,60,9;p10,0,0;").passes(), 2);
        CHECK.due("in the last", Check.laid("m0,1,60,9;p20,0,0;r20;").passes(), 20);
        CHECK.due("one behind the last", Check.laid("m0,1,60,9;p20,0,0;r19;").passes(), NONE);
        CHECK.due("not hungry enough", Check.laid("m0,9,8,9;p9,0,0;").passes(), NONE);
        CHECK.due("too hot to begin with", Check.laid("m1,5,60,9;p10,6,0;r4;").passes(), 4);
        CHECK.due("too hot for too long", Check.laid("m1,5,60,9;p10,6,0;r3;").passes(), NONE);
        SpoonVotes x = Check.laid("m0,1,60,9;p20,0,0;r19;");
        x.eat(1);
        CHECK.due("rounds are from now on", x.passes(), 19);
        x.eat(19);
        CHECK.due("eaten", x.passes(), 0);
    }

    private static void promise15Left() {
        SpoonVotes x = new SpoonVotes();
        int[] left = {40, 31, 22, 12, 3, 0, 0};
        for (int n = 0; n < left.length; n++) {
            CHECK.due("left " + n, x.left(n), left[n]);
        }
        SpoonVotes one = Check.laid("m0,1,60,9;p30,0,0;r1;");
        CHECK.due("left behind more rounds than the motion has", one.left(20), 10);
        int[] bad = {-1, 21, Integer.MIN_VALUE, Integer.MAX_VALUE};
        for (int n : bad) {
            CHECK.due("left " + n, x.left(n), BAD);
        }
    }

    private static void promise16Scraper() {
        CHECK.due("scraper at first", new SpoonVotes().scraper(), 1);
        CHECK.due("the second", Check.laid("m0,3,9,9;m0,3,9,9;m0,3,9,9;p6,0,0;").scraper(), 1);
        CHECK.due("the third by one", Check.laid("m0,3,9,9;m0,3,9,9;m0,3,9,9;p7,0,0;").scraper(), 2);
        CHECK.due("the first again", Check.laid("m0,3,9,9;m0,3,9,9;p7,0,0;").scraper(), 0);
        CHECK.due("who does not eat scrapes not", Check.laid("m0,3,9,9;m0,3,0,9;p3,0,0;").scraper(), 0);
        CHECK.due("an empty pot", Check.laid("m0,3,9,9;p0,0,0;").scraper(), NONE);
        CHECK.due("in the last round", Check.laid("m0,1,60,9;p5,0,0;").scraper(), 0);
        CHECK.due("behind the last round", Check.laid("m0,1,60,9;p6,0,0;").scraper(), NONE);
    }

    private static void promise17Spoil() {
        CHECK.due("spoil at first", new SpoonVotes().spoil(), 1);
        CHECK.due("it does not pass as it is", Check.laid("m0,1,60,9;p6,0,0;").spoil(), 0);
        CHECK.due("by one more than he bears", Check.laid("m0,9,60,5;p6,0,1;").spoil(), 5);
        CHECK.due("by the most", Check.laid("m0,9,60,8;p6,0,0;").spoil(), 9);
        CHECK.due("nobody minds", Check.laid("m0,9,60,9;p6,0,0;").spoil(), NONE);
        CHECK.due("nobody minds at 9", Check.laid("m0,9,60,9;p6,0,9;").spoil(), NONE);
        CHECK.due("an empty pot is not spoilt", Check.laid("m0,9,60,0;p0,0,0;").spoil(), NONE);
        CHECK.due("the others can without him", Check.laid("m0,9,60,2;m0,9,60,7;p9,0,0;").spoil(), 8);
        CHECK.due("the others cannot", Check.laid("m0,9,60,2;m0,9,60,7;p9,0,0;r1;").spoil(), 8);
        CHECK.due("not in one round", Check.laid("m0,9,60,2;m0,9,60,7;p10,0,0;r1;").spoil(), 3);
    }

    private static void promise18Waits() {
        CHECK.due("it passes now", new SpoonVotes().waits(), 0);
        CHECK.due("silver", Check.laid("m1,5,60,9;p25,9,0;").waits(), 5);
        CHECK.due("silver, a round less", Check.laid("m1,5,60,9;p20,9,0;").waits(), 4);
        CHECK.due("ladle", Check.laid("m2,5,60,9;p50,9,0;").waits(), 2);
        CHECK.due("licker", Check.laid("m3,5,60,9;p5,9,0;").waits(), 1);
        CHECK.due("it never will", Check.laid("m0,5,60,9;p26,9,0;").waits(), NONE);
        CHECK.due("cold, and it never will", Check.laid("m0,5,60,9;p26,0,0;").waits(), NONE);
        CHECK.due("an empty pot", Check.laid("m1,5,0,0;p0,9,9;").waits(), 0);
    }

    private static void promise19Most() {
        CHECK.due("most at first", new SpoonVotes().most(), 43);
        CHECK.due("by spoon", Check.laid("m0,3,60,9;p1,0,0;r4;").most(), 12);
        CHECK.due("by hunger", Check.laid("m0,9,11,9;p99,0,0;r4;").most(), 11);
        CHECK.due("nothing", Check.laid("m0,9,60,2;p50,0,3;").most(), 0);
        CHECK.due("99", Check.laid("m0,9,60,9;m0,9,39,9;p0,0,0;r20;").most(), 99);
        CHECK.due("98", Check.laid("m0,9,60,9;m0,9,38,9;p0,0,0;r20;").most(), 98);
        CHECK.due("no more than 99", Check.laid("m0,9,60,9;m0,9,60,9;p0,0,0;r20;").most(), 99);
        CHECK.due("by heat", Check.laid("m1,2,60,9;p0,7,0;r5;").most(), 4);
    }

    private static void promise20Fasts() {
        CHECK.due("it passes now", new SpoonVotes().fasts(), 0);
        CHECK.due("by hunger", Check.laid("m0,9,0,9;p13,0,0;f6;").fasts(), 3);
        CHECK.due("by hunger, just", Check.laid("m0,9,0,9;p12,0,0;f6;").fasts(), 2);
        CHECK.due("as it is cold then", Check.laid("m1,9,60,9;p45,9,0;").fasts(), 1);
        CHECK.due("ten days", Check.laid("m0,1,0,9;p10,0,0;r10;f1;").fasts(), 10);
        CHECK.due("eleven days", Check.laid("m0,1,0,9;p11,0,0;r11;f1;").fasts(), NONE);
        CHECK.due("no hungrier than 60", Check.laid("m0,9,59,9;p61,0,0;r20;f20;").fasts(), NONE);
        CHECK.due("60 is enough", Check.laid("m0,9,59,9;p60,0,0;r20;f20;").fasts(), 1);
        CHECK.due("an empty pot", Check.laid("m0,1,0,9;p0,0,0;").fasts(), 0);
    }

    private static void cabal(String text, int many, int which) {
        SpoonVotes x = Check.laid(text);
        CHECK.due("cabal(0) of " + text, x.cabal(0), many);
        CHECK.due("cabal(1) of " + text, x.cabal(1), which);
    }

    private static void promise21Cabal() {
        cabal("m0,3,12,6;m1,4,20,3;m2,2,9,5;m3,5,30,9;m0,1,8,2;p40,6,2;r5;f6;", 5, 31);
        cabal("m0,1,9,9;m0,9,60,9;m0,9,60,9;p20,0,0;", 1, 2);
        cabal("m0,1,9,9;m0,4,60,9;m0,3,60,9;m0,1,60,9;p25,0,0;", 2, 3);
        cabal("m0,1,9,9;m0,4,60,9;m0,3,60,9;m0,1,60,9;p21,0,0;", 2, 3);
        cabal("m0,1,9,9;m0,3,60,9;m0,3,60,9;m0,4,60,9;p35,0,0;", 2, 10);
        cabal("m0,1,9,9;m0,3,60,9;p0,0,0;", 0, 0);
        cabal("m0,1,9,9;m0,3,60,9;p21,0,0;", NONE, NONE);
        cabal("m0,1,1,9;m0,1,1,9;m0,1,1,9;m0,1,1,9;m0,1,1,9;m0,1,1,9;m0,1,1,9;p7,0,0;", 7, 127);
        cabal("m0,1,1,9;m0,1,1,9;m0,1,1,9;m0,1,1,9;m0,1,1,9;m0,1,1,9;m0,1,2,9;p2,0,0;", 1, 64);
        int[] bad = {-1, 2, Integer.MIN_VALUE, Integer.MAX_VALUE};
        SpoonVotes none = Check.laid("m0,1,9,9;p21,0,0;");
        for (int what : bad) {
            CHECK.due("cabal " + what, new SpoonVotes().cabal(what), BAD);
            CHECK.due("cabal " + what + ": BAD is before NONE", none.cabal(what), BAD);
        }
    }

    private static void promise22Trades() {
        CHECK.due("it passes now", new SpoonVotes().trades(), NONE);
        // The hungry one, 1, needs the large spoon: 0 and 1, or 1 and 2, as 2 has a larger one.
        CHECK.due("the first two", Check.laid("m0,5,5,9;m0,1,60,9;m0,6,6,9;p30,0,0;").trades(), 1);
        CHECK.due("the first do not", Check.laid("m0,2,5,9;m0,1,60,9;m0,6,6,9;p30,0,0;").trades(), 12);
        CHECK.due("by kind", Check.laid("m3,9,60,9;m0,9,1,9;p40,0,0;").trades(), 1);
        CHECK.due("02 is before 12", Check.laid("m0,1,30,9;m0,1,30,9;m0,9,1,9;p30,0,0;").trades(), 2);
        CHECK.due("none will do", Check.laid("m0,1,9,9;m0,1,9,9;p50,0,0;").trades(), NONE);
        CHECK.due("one alone", Check.laid("m0,1,60,9;p50,0,0;").trades(), NONE);
        CHECK.due("the last two", Check.laid("m0,1,0,9;m0,1,0,9;m0,1,0,9;m0,1,0,9;m0,1,0,9;"
                + "m0,9,1,9;m0,1,45,9;p40,0,0;").trades(), 56);
    }

    private static void power(SpoonVotes x, int i, int above, int below) {
        CHECK.due("power of " + i + ", above", x.power(i, 0), above);
        CHECK.due("power of " + i + ", below", x.power(i, 1), below);
    }

    private static void promise23Power() {
        for (int i = 0; i < 5; i++) {
            power(new SpoonVotes(), i, 1, 5);
        }
        SpoonVotes dictator = Check.laid("m0,9,60,9;m0,1,1,9;p5,0,0;");
        power(dictator, 0, 1, 1);
        power(dictator, 1, 0, 1);
        power(Check.laid("m0,9,60,9;m0,1,1,9;p0,0,0;"), 0, 0, 1);
        power(Check.laid("m0,9,60,9;m0,1,1,9;p99,0,0;"), 0, 0, 1);
        power(Check.laid("m0,9,60,9;p9,0,0;"), 0, 1, 1);
        SpoonVotes x = new SpoonVotes();
        int[] noMembers = {-1, 5, 7, Integer.MIN_VALUE, Integer.MAX_VALUE};
        for (int i : noMembers) {
            CHECK.due("power of " + i, x.power(i, 0), BAD);
        }
        int[] noParts = {-1, 2, Integer.MIN_VALUE, Integer.MAX_VALUE};
        for (int part : noParts) {
            CHECK.due("power, part " + part, x.power(0, part), BAD);
        }
    }

    private static void promise23PowerByOrders() {
        // They can eat 4, 3, 2 and 1 of the 6: {0,2}, {0,1}, {1,2,3} and what holds one of these.
        SpoonVotes x = Check.laid("m0,4,4,9;m0,3,3,9;m0,2,2,9;m0,1,1,9;p6,0,0;");
        power(x, 0, 5, 12);
        power(x, 1, 1, 4);
        power(x, 2, 1, 4);
        power(x, 3, 1, 12);
        // Seven alike, of whom four are needed.
        SpoonVotes seven = Check.laid("m0,1,1,9;m0,1,1,9;m0,1,1,9;m0,1,1,9;m0,1,1,9;m0,1,1,9;m0,1,1,9;p4,0,0;");
        for (int i = 0; i < 7; i++) {
            power(seven, i, 1, 7);
        }
    }

    private static void questionsChangeNothing() {
        SpoonVotes x = new SpoonVotes();
        x.passes();
        x.left(7);
        x.scraper();
        x.spoil();
        x.waits();
        x.most();
        x.fasts();
        x.cabal(1);
        x.trades();
        x.power(2, 0);
        int[] counts = {5, 40, 6, 2, 5, 79, 0, 0, 0, 0, 0};
        for (int what = 0; what < counts.length; what++) {
            CHECK.due("behind questions: count " + what, x.count(what), counts[what]);
        }
        CHECK.due("behind questions: eaten", x.member(0, 4), 0);
        CHECK.due("behind questions: spoon", x.member(0, 1), 3);
    }

    private static void questionsHangOnNoQuestionBefore() {
        SpoonVotes x = new SpoonVotes();
        for (int time = 0; time < 3; time++) {
            CHECK.due("left", x.left(20), 0);
            CHECK.due("passes behind left", x.passes(), 5);
            CHECK.due("scraper behind passes", x.scraper(), 1);
            CHECK.due("fault behind scraper", x.fault(), NONE);
            CHECK.due("spoil behind fault", x.spoil(), 1);
            CHECK.due("waits behind spoil", x.waits(), 0);
            CHECK.due("left once more", x.left(1), 31);
            CHECK.due("fasts behind left", x.fasts(), 0);
            CHECK.due("spoil behind fasts", x.spoil(), 1);
        }
        x.salt();
        x.cook(50);
        CHECK.due("does not pass", x.passes(), NONE);
        CHECK.due("is spoilt as it is", x.spoil(), 0);
        CHECK.due("left when it is hot", x.left(20), 0);
        CHECK.due("waiting does not help behind left", x.waits(), NONE);
        CHECK.due("left once more when it is hot", x.left(20), 0);
        CHECK.due("a fast helps behind left", x.fasts(), 1);
        x.undo();
        CHECK.due("not cooked, but too salt", x.passes(), NONE);
    }
}
