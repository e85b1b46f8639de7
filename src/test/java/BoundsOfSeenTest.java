/**
 * The bounds of what is SEEN, promises 24 to 26: a test for each sentence that names one, at the
 * bound, below it and above it.
 */
public final class BoundsOfSeenTest {
    private static final int BAD = -1, FULL = -3;
    private static final Check CHECK = new Check();
    private static final int[] HIGHEST_HEAT = {9, 4, 7, 8};
    private static final int[] MUCH = {5, 5, 10, 1};

    public static void main(String[] args) {
        sixAreSeenAtMost();
        seenBehindForget();
        seenOf0To18();
        seenOfMembersThatThereAre();
        badBeforeFull();
        forgetOfNoneOneAndSix();
        maySaltOf0To9();
        mayHeatOf0To9();
        mayIsInPlaceOfWhatThereIs();
        mayOfNothingSeen();
        mayOfAllThatIsSeen();
        mayOf0And18();
        mayOfWhatIsLeftToHim();
        mayByHowAllStandsWhenAsked();
        mayOfWhatThereIsNot();
        CHECK.finish("bounds of what is seen");
    }

    private static void sixAreSeenAtMost() {
        SpoonVotes x = new SpoonVotes();
        for (int many = 1; many <= 6; many++) {
            CHECK.due("seen before", x.count(7), many - 1);
            CHECK.due("seen " + many, x.seen(4, 18), many);
        }
        CHECK.due("seen a seventh", x.seen(4, 18), FULL);
        CHECK.due("seen an eighth", x.seen(0, 0), FULL);
        CHECK.due("six are seen", x.count(7), 6);
        CHECK.due("the seventh is not among them", x.forget(), 6);
    }

    private static void seenBehindForget() {
        SpoonVotes x = new SpoonVotes();
        for (int k = 0; k < 7; k++) {
            x.seen(0, 18);
        }
        CHECK.due("none may be", x.may(0), 0);
        x.forget();
        CHECK.due("all may be", x.may(0), 1023);
        for (int many = 1; many <= 6; many++) {
            CHECK.due("seen anew " + many, x.seen(0, 3), many);
        }
        CHECK.due("seen anew a seventh", x.seen(0, 3), FULL);
        CHECK.due("what was seen before is forgotten", x.may(0), 127);
    }

    private static void seenOf0To18() {
        for (int n = 0; n <= 18; n++) {
            CHECK.due("seen of " + n, new SpoonVotes().seen(0, n), 1);
        }
        int[] bad = {-1, -2, 19, 20, Integer.MIN_VALUE, Integer.MAX_VALUE};
        for (int n : bad) {
            SpoonVotes x = new SpoonVotes();
            CHECK.due("seen of " + n, x.seen(0, n), BAD);
            CHECK.due("seen of " + n + ": nothing", x.count(7), 0);
        }
    }

    private static void seenOfMembersThatThereAre() {
        for (int many = 1; many <= 7; many++) {
            SpoonVotes x = Check.laid("m0,1,1,1;".repeat(many));
            int[] bad = {-1, many, 7, 8, Integer.MIN_VALUE, Integer.MAX_VALUE};
            for (int i : bad) {
                CHECK.due("seen " + i + " of " + many, x.seen(i, 0), BAD);
            }
            CHECK.due("seen 0 of " + many, x.seen(0, 0), 1);
            CHECK.due("seen the last of " + many, x.seen(many - 1, 0), 2);
        }
    }

    private static void badBeforeFull() {
        SpoonVotes x = new SpoonVotes();
        for (int k = 0; k < 6; k++) {
            x.seen(0, k);
        }
        CHECK.due("a member that there is not", x.seen(5, 0), BAD);
        CHECK.due("-1 of members", x.seen(-1, 0), BAD);
        CHECK.due("-1 eaten", x.seen(0, -1), BAD);
        CHECK.due("19 eaten", x.seen(0, 19), BAD);
        CHECK.due("what could be", x.seen(0, 0), FULL);
    }

    private static void forgetOfNoneOneAndSix() {
        for (int many = 0; many <= 7; many++) {
            SpoonVotes x = new SpoonVotes();
            for (int k = 0; k < many; k++) {
                x.seen(1, 7);
            }
            CHECK.due("forget " + many, x.forget(), Math.min(6, many));
            CHECK.due("forget " + many + ": none is seen", x.count(7), 0);
            CHECK.due("forget behind forget", x.forget(), 0);
        }
    }

    /** Bits of what is not above the number. */
    private static int to(int number) {
        return (1 << number + 1) - 1;
    }

    private static void may(String text, int n, int what, int due) {
        SpoonVotes x = Check.laid(text);
        x.seen(0, n);
        CHECK.due("may " + what + " of " + text + " seen " + n, x.may(what), due);
    }

    private static void maySaltOf0To9() {
        for (int kind = 0; kind < 4; kind++) {
            for (int bears = 0; bears <= 9; bears++) {
                String text = "m" + kind + ",5,60," + bears + ";p99,0,0;";
                may(text, MUCH[kind], 0, to(bears));
                may(text, 0, 0, 1023 - to(bears));
                may(text, MUCH[kind] - 1, 0, kind == 3 ? 1023 - to(bears) : 0);
                may(text, MUCH[kind] + 1, 0, 0);
            }
        }
    }

    private static void mayHeatOf0To9() {
        for (int kind = 0; kind < 4; kind++) {
            String text = "m" + kind + ",5,60,9;p99,9,9;";
            may(text, MUCH[kind], 1, to(HIGHEST_HEAT[kind]));
            may(text, 0, 1, 1023 - to(HIGHEST_HEAT[kind]));
            may(text, MUCH[kind] + 1, 1, 0);
        }
    }

    private static void mayIsInPlaceOfWhatThereIs() {
        for (int now = 0; now <= 9; now++) {
            may("m1,5,60,3;p99,4," + now + ";", 5, 0, 15);
            may("m1,5,60,3;p99," + now + ",3;", 5, 1, 31);
            // The other of the two holds as it stands.
            may("m1,5,60,3;p99," + now + ",0;", 5, 0, now <= 4 ? 15 : 0);
            may("m1,5,60,3;p99,0," + now + ";", 5, 1, now <= 3 ? 31 : 0);
        }
    }

    private static void mayOfNothingSeen() {
        CHECK.due("any salt", new SpoonVotes().may(0), 1023);
        CHECK.due("any heat", new SpoonVotes().may(1), 1023);
        SpoonVotes x = Check.laid("m0,1,0,0;p0,9,9;");
        CHECK.due("any salt in an empty pot", x.may(0), 1023);
        CHECK.due("any heat of an empty pot", x.may(1), 1023);
        x.seen(0, 0);
        CHECK.due("nobody ate at any salt", x.may(0), 1023);
        CHECK.due("nobody ate at any heat", x.may(1), 1023);
        x.seen(0, 1);
        CHECK.due("he ate at no salt", x.may(0), 0);
        CHECK.due("he ate at no heat", x.may(1), 0);
    }

    private static void mayOfAllThatIsSeen() {
        // Each of six takes a salt from below, the last that is seen too.
        SpoonVotes x = Check.laid("m0,1,60,0;m0,1,60,1;m0,1,60,2;m0,1,60,3;m0,1,60,4;m0,1,60,5;m0,1,60,9;p99,0,0;");
        for (int i = 0; i < 6; i++) {
            x.seen(i, 0);
            CHECK.due("not eaten by 0 to " + i, x.may(0), 1023 - to(i));
        }
        x.forget();
        for (int i = 5; i >= 0; i--) {
            x.seen(i, 1);
            CHECK.due("eaten by 5 to " + i, x.may(0), to(i));
        }
        x.forget();
        for (int k = 0; k < 5; k++) {
            x.seen(6, 1);
        }
        x.seen(0, 0);
        CHECK.due("all six count", x.may(0), 1022);
        x.seen(0, 1);
        CHECK.due("a seventh does not", x.may(0), 1022);
    }

    private static void mayOf0And18() {
        may("m2,9,60,9;p99,0,0;", 18, 0, 1023);
        may("m2,9,60,9;p99,0,0;", 18, 1, 255);
        may("m2,9,18,9;p18,0,0;", 18, 1, 255);
        may("m2,9,17,9;p99,0,0;", 18, 1, 0);
        may("m2,9,60,9;p17,0,0;", 18, 1, 0);
        may("m2,9,17,9;p99,0,0;", 17, 1, 255);
        may("m2,9,60,9;p99,0,0;", 0, 1, 768);
        may("m2,9,0,9;p99,0,0;", 0, 1, 1023);
    }

    private static void mayOfWhatIsLeftToHim() {
        // Silver eats 5 of 7 before him, not above heat 4 nor above salt 2.
        SpoonVotes x = Check.laid("m1,5,60,2;m0,4,60,9;p7,0,0;");
        x.seen(1, 2);
        CHECK.due("heat by which 0 ate before him", x.may(1), 31);
        CHECK.due("salt by which 0 ate before him", x.may(0), 7);
        x.forget();
        x.seen(1, 4);
        CHECK.due("heat by which 0 did not", x.may(1), 1023 - 31);
        CHECK.due("salt by which 0 did not", x.may(0), 1023 - 7);
    }

    private static void mayByHowAllStandsWhenAsked() {
        SpoonVotes x = Check.laid("m0,5,12,9;p99,0,0;");
        x.seen(0, 5);
        CHECK.due("hunger 12", x.may(0), 1023);
        x.eat(1);
        CHECK.due("hunger 7", x.may(0), 1023);
        x.eat(1);
        CHECK.due("hunger 2", x.may(0), 0);
        x.fast();
        CHECK.due("hunger 8", x.may(0), 1023);
        x.undo();
        CHECK.due("hunger 2 again", x.may(0), 0);
        x.keep();
        x.fast();
        x.back();
        CHECK.due("hunger 2 as kept", x.may(0), 0);
        CHECK.due("one is seen as before", x.count(7), 1);
    }

    private static void mayOfWhatThereIsNot() {
        SpoonVotes x = new SpoonVotes();
        int[] bad = {-1, 2, 3, Integer.MIN_VALUE, Integer.MAX_VALUE};
        for (int what : bad) {
            CHECK.due("may " + what + " of nothing seen", x.may(what), BAD);
        }
        x.seen(0, 18);
        for (int what : bad) {
            CHECK.due("may " + what, x.may(what), BAD);
        }
        CHECK.due("may 0", x.may(0), 0);
        CHECK.due("may 1", x.may(1), 0);
    }
}
