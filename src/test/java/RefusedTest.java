import java.util.ArrayList;
import java.util.List;

/**
 * A call that is refused (BAD, NO, FULL, NONE), or one that asks, changes nothing that a later call
 * tells: two objects live the same, one of them is refused too, and then both are asked for all.
 */
public final class RefusedTest {
    private static final int BAD = -1, NO = -2, FULL = -3, NONE = -4;
    private static final int MIN = Integer.MIN_VALUE, MAX = Integer.MAX_VALUE;
    private static final Check CHECK = new Check();

    private interface Life {
        void of(SpoonVotes x);
    }

    private interface Ask {
        int of(SpoonVotes x);
    }

    private interface Tale {
        void tell(SpoonVotes x, List<Integer> told);
    }

    private static final Tale[] TALES = {RefusedTest::tellAllNumbers, RefusedTest::tellWhatComes,
        RefusedTest::tellWhatWasSeen, RefusedTest::tellChances, RefusedTest::tellByUndoing,
        RefusedTest::tellByGoingBack, RefusedTest::tellTheText, RefusedTest::tellByLaying,
        RefusedTest::tellByActs};

    public static void main(String[] args) {
        badNumbers();
        refusedAtFirst();
        refusedWhenAllIsFull();
        refusedWhenTheTextIsAtFault();
        noneOfAnEmptyPot();
        noneOfWhatCannotPass();
        questionsAreNoActs();
        laidAnewAsLaidFirst();
        CHECK.finish("refused");
    }

    /** Members of each kind with some of all that can be told. */
    private static void someOfAll(SpoonVotes x) {
        Check.write(x, "m1,4,20,3;m2,3,30,7;p60,7,2;r6;f5;");
        x.lay();
        x.eat(2);
        x.salt();
        x.keep();
        x.trade(0, 1);
        x.seen(0, 6);
        x.seen(1, 0);
        x.cook(70);
        x.write('r');
    }

    private static void allIsFull(SpoonVotes x) {
        Check.write(x, "m0,4,60,9;m3,3,60,9;p97,0,5;" + "r20;".repeat(43));
        x.lay();
        x.keep();
        x.eat(1);
        x.keep();
        for (int k = 0; k < 8; k++) {
            x.seen(0, 4);
        }
        x.cook(98);
        x.cook(99);
        x.trade(0, 1);
        for (int k = 0; k < 4; k++) {
            x.salt();
        }
        x.fast();
    }

    private static void emptyPot(SpoonVotes x) {
        Check.write(x, "m0,4,20,9;m0,3,30,9;p10,3,0;");
        x.lay();
        x.keep();
        x.eat(3);
        x.seen(0, 0);
    }

    private static void cannotPass(SpoonVotes x) {
        Check.write(x, "m0,4,20,8;m0,3,30,9;p99,3,0;f1;");
        x.lay();
        x.keep();
        x.fast();
        x.salt();
        x.seen(0, 4);
    }

    private static void atFault(SpoonVotes x) {
        x.eat(2);
        x.keep();
        x.salt();
        x.seen(0, 3);
        Check.write(x, "m0,4,20,8;p1,2,3;r1;f1;m0,4,20,10;");
    }

    private static void textOfNobody(SpoonVotes x) {
        x.eat(2);
        x.keep();
        x.salt();
        x.seen(0, 3);
        Check.write(x, "p1,2,3;r1;f1;");
    }

    private static void badNumbers() {
        Life[] lives = {x -> { }, RefusedTest::someOfAll, RefusedTest::allIsFull, RefusedTest::emptyPot,
            RefusedTest::cannotPass, RefusedTest::atFault};
        int[] beyond = {-1, 100000, MIN, MAX};
        for (Life life : lives) {
            for (int b : beyond) {
                Ask[] asks = {x -> x.write(b), x -> x.member(b, 0), x -> x.member(0, b), x -> x.eat(b),
                    x -> x.cook(b), x -> x.trade(b, 0), x -> x.trade(0, b), x -> x.left(b), x -> x.cabal(b),
                    x -> x.power(b, 0), x -> x.power(0, b), x -> x.seen(b, 0), x -> x.seen(0, b),
                    x -> x.may(b), x -> x.likely(b, 0), x -> x.likely(5, b), x -> x.century(b, 40, 0),
                    x -> x.century(7, b, 0), x -> x.century(7, 40, b), x -> x.count(b)};
                for (int k = 0; k < asks.length; k++) {
                    refused("BAD " + k + " by " + b, life, asks[k], BAD);
                }
            }
            Ask[] others = {x -> x.write(31), x -> x.write(127), x -> x.eat(0), x -> x.eat(21), x -> x.cook(0),
                x -> x.cook(100), x -> x.trade(0, 0), x -> x.trade(1, 1), x -> x.seen(0, 19), x -> x.likely(11, 0),
                x -> x.century(0, 0, 0), x -> x.century(0, 41, 0), x -> x.left(21), x -> x.count(11)};
            for (int k = 0; k < others.length; k++) {
                refused("BAD, other " + k, life, others[k], BAD);
            }
        }
    }

    private static void refusedAtFirst() {
        Life first = x -> { };
        refused("undo at first", first, SpoonVotes::undo, NO);
        refused("back at first", first, SpoonVotes::back, NO);
        refused("lay at first", first, SpoonVotes::lay, NO);
        refused("cook 1 at first", first, x -> x.cook(1), NO);
        refused("cook 40 at first", first, x -> x.cook(40), NO);
        refused("fault at first", first, SpoonVotes::fault, NONE);
        refused("trades at first", first, SpoonVotes::trades, NONE);
    }

    private static void refusedWhenAllIsFull() {
        Life full = RefusedTest::allIsFull;
        refused("write of letter 201", full, x -> x.write('m'), FULL);
        refused("keep of a third", full, SpoonVotes::keep, FULL);
        refused("seen a seventh", full, x -> x.seen(1, 3), FULL);
        refused("salt of 9", full, SpoonVotes::salt, NO);
        refused("cool at 0", full, SpoonVotes::cool, NO);
        refused("cook 99 of 99", full, x -> x.cook(99), NO);
        refused("cook 1 of 99", full, x -> x.cook(1), NO);
    }

    private static void refusedWhenTheTextIsAtFault() {
        refused("lay of a fault", RefusedTest::atFault, SpoonVotes::lay, NO);
        refused("lay of nobody", RefusedTest::textOfNobody, SpoonVotes::lay, NO);
        refused("lay behind some of all", RefusedTest::someOfAll, SpoonVotes::lay, NO);
        Life wiped = x -> {
            someOfAll(x);
            x.wipe();
        };
        refused("lay of nothing", wiped, SpoonVotes::lay, NO);
        refused("fault of nothing", wiped, SpoonVotes::fault, NONE);
        refused("fault of nobody", RefusedTest::textOfNobody, SpoonVotes::fault, NONE);
    }

    private static void noneOfAnEmptyPot() {
        Life empty = RefusedTest::emptyPot;
        refused("scraper of nothing", empty, SpoonVotes::scraper, NONE);
        refused("spoil of nothing", empty, SpoonVotes::spoil, NONE);
        refused("trades for nothing", empty, SpoonVotes::trades, NONE);
        refused("cool behind three rounds", empty, SpoonVotes::cool, NO);
        Life allBack = x -> {
            emptyPot(x);
            x.back();
        };
        refused("back to none", allBack, SpoonVotes::back, NO);
        refused("undo behind back", allBack, SpoonVotes::undo, NO);
        Life allUndone = x -> {
            emptyPot(x);
            x.undo();
        };
        refused("undo of none", allUndone, SpoonVotes::undo, NO);
    }

    private static void noneOfWhatCannotPass() {
        Life vain = RefusedTest::cannotPass;
        refused("passes", vain, SpoonVotes::passes, NONE);
        refused("scraper", vain, SpoonVotes::scraper, NONE);
        refused("waits", vain, SpoonVotes::waits, NONE);
        refused("fasts", vain, SpoonVotes::fasts, NONE);
        refused("cabal(0)", vain, x -> x.cabal(0), NONE);
        refused("cabal(1)", vain, x -> x.cabal(1), NONE);
        refused("trades", vain, SpoonVotes::trades, NONE);
    }

    private static void questionsAreNoActs() {
        Life[] lives = {x -> { }, RefusedTest::someOfAll, RefusedTest::allIsFull, RefusedTest::emptyPot,
            RefusedTest::cannotPass, RefusedTest::atFault};
        Ask[] asks = {SpoonVotes::fault, x -> x.member(1, 5), SpoonVotes::passes, x -> x.left(0), x -> x.left(20),
            SpoonVotes::scraper, SpoonVotes::spoil, SpoonVotes::waits, SpoonVotes::most, SpoonVotes::fasts,
            x -> x.cabal(0), SpoonVotes::trades, x -> x.power(1, 1), x -> x.may(0), x -> x.may(1),
            x -> x.likely(3, 0), x -> x.century(77, 40, 0), x -> x.century(9999, 1, 1), x -> x.count(6)};
        for (Life life : lives) {
            for (int k = 0; k < asks.length; k++) {
                nothingChanges("question " + k, life, asks[k]);
            }
        }
    }

    /** What was laid, eaten, seen, kept or done before, by more members or by fewer, is told no more. */
    private static void laidAnewAsLaidFirst() {
        Life seven = x -> {
            Check.write(x, "m2,9,60,9;".repeat(7) + "p99,0,0;r20;f20;");
            x.lay();
            x.eat(1);
            x.fast();
        };
        Life[] lives = {x -> { }, seven, RefusedTest::someOfAll, RefusedTest::allIsFull, RefusedTest::emptyPot,
            RefusedTest::cannotPass, RefusedTest::atFault};
        String[] texts = {"m1,5,7,3;", "m0,3,12,6;m2,2,9,5;", "m3,9,9,9;".repeat(6) + "p8,7,6;",
            "m0,1,60,9;".repeat(7) + "p99,0,0;"};
        for (String text : texts) {
            Life laid = x -> {
                x.wipe();
                Check.write(x, text);
                x.lay();
            };
            for (int k = 0; k < lives.length; k++) {
                Life before = lives[k];
                Life anew = x -> {
                    before.of(x);
                    laid.of(x);
                };
                bothTellTheSame("life " + k + " ahead of " + text, laid, anew);
            }
        }
    }

    private static void refused(String call, Life life, Ask ask, int due) {
        SpoonVotes x = new SpoonVotes();
        life.of(x);
        CHECK.due(call, ask.of(x), due);
        CHECK.due(call + " once more", ask.of(x), due);
        nothingChanges(call, life, ask);
    }

    private static void nothingChanges(String call, Life life, Ask ask) {
        bothTellTheSame(call, life, x -> {
            life.of(x);
            ask.of(x);
        });
    }

    private static void bothTellTheSame(String call, Life lifeOfOne, Life lifeOfOther) {
        for (int k = 0; k < TALES.length; k++) {
            SpoonVotes one = new SpoonVotes();
            SpoonVotes other = new SpoonVotes();
            lifeOfOne.of(one);
            lifeOfOther.of(other);
            List<Integer> ofOne = new ArrayList<>();
            List<Integer> ofOther = new ArrayList<>();
            TALES[k].tell(one, ofOne);
            TALES[k].tell(other, ofOther);
            CHECK.isTrue(call + " changes what tale " + k + " tells: " + ofOne + ", " + ofOther,
                    ofOne.equals(ofOther));
        }
    }

    private static void tellAllNumbers(SpoonVotes x, List<Integer> told) {
        for (int what = 0; what <= 10; what++) {
            told.add(x.count(what));
        }
        for (int i = 0; i < x.count(0); i++) {
            for (int what = 0; what <= 5; what++) {
                told.add(x.member(i, what));
            }
        }
    }

    private static void tellWhatComes(SpoonVotes x, List<Integer> told) {
        told.add(x.passes());
        for (int n = 0; n <= 20; n++) {
            told.add(x.left(n));
        }
        told.add(x.scraper());
        told.add(x.spoil());
        told.add(x.waits());
        told.add(x.most());
        told.add(x.fasts());
        told.add(x.cabal(0));
        told.add(x.cabal(1));
        told.add(x.trades());
        for (int i = 0; i < x.count(0); i++) {
            told.add(x.power(i, 0));
            told.add(x.power(i, 1));
        }
    }

    private static void tellWhatWasSeen(SpoonVotes x, List<Integer> told) {
        told.add(x.may(0));
        told.add(x.may(1));
        for (int k = 0; k < 7; k++) {
            told.add(x.seen(0, k));
            told.add(x.may(0));
        }
        told.add(x.forget());
        told.add(x.may(1));
    }

    private static void tellChances(SpoonVotes x, List<Integer> told) {
        for (int tenths = 0; tenths <= 10; tenths++) {
            told.add(x.likely(tenths, 0));
            told.add(x.likely(tenths, 1));
        }
        for (int z = 0; z < 20; z++) {
            told.add(x.century(z, 40, 0));
            told.add(x.century(z, 40, 1));
        }
    }

    private static void tellByUndoing(SpoonVotes x, List<Integer> told) {
        for (int k = 0; k < 9; k++) {
            told.add(x.undo());
            for (int what = 1; what <= 8; what++) {
                told.add(x.count(what));
            }
            for (int what = 0; what <= 5; what++) {
                told.add(x.member(0, what));
                told.add(x.member(1, what));
            }
        }
    }

    private static void tellByGoingBack(SpoonVotes x, List<Integer> told) {
        for (int k = 0; k < 3; k++) {
            told.add(x.back());
            tellAllNumbers(x, told);
            told.add(x.undo());
        }
        told.add(x.keep());
        told.add(x.fast());
        told.add(x.back());
        told.add(x.count(5));
    }

    private static void tellTheText(SpoonVotes x, List<Integer> told) {
        told.add(x.fault());
        told.add(x.write('r'));
        told.add(x.fault());
        told.add(x.write('5'));
        told.add(x.write(';'));
        told.add(x.fault());
        told.add(x.wipe());
        told.add(x.fault());
        told.add(x.write('f'));
        told.add(x.fault());
    }

    private static void tellByLaying(SpoonVotes x, List<Integer> told) {
        told.add(x.lay());
        tellAllNumbers(x, told);
        told.add(x.fast());
        told.add(x.undo());
        told.add(x.back());
    }

    private static void tellByActs(SpoonVotes x, List<Integer> told) {
        told.add(x.eat(1));
        told.add(x.salt());
        told.add(x.cook(80));
        told.add(x.cool());
        told.add(x.trade(1, 0));
        told.add(x.eat(2));
        told.add(x.fast());
        told.add(x.keep());
        tellAllNumbers(x, told);
        for (int k = 0; k < 9; k++) {
            told.add(x.undo());
            told.add(x.count(6));
        }
    }
}
