/**
 * The bounds of THE TEXT, its ITEMS and FAULT, and those of promises 1 to 6: a test for each sentence
 * that names one, at the bound, below it and above it.
 */
public final class BoundsOfTextTest {
    private static final int BAD = -1, NO = -2, FULL = -3, NONE = -4;
    private static final Check CHECK = new Check();
    private static final String MEMBER = "m0,1,2,3;";

    /** An ITEM of which one number is drawn, and between which bounds that number is. */
    private record Bounded(String ahead, String behind, int lowest, int greatest) {
        String with(String number) {
            return ahead + number + behind;
        }
    }

    private static final Bounded[] NUMBERS = {
        new Bounded("m", ",1,1,1;", 0, 3),
        new Bounded("m1,", ",1,1;", 1, 9),
        new Bounded("m1,1,", ",1;", 0, 60),
        new Bounded("m1,1,1,", ";", 0, 9),
        new Bounded("p", ",1,1;", 0, 99),
        new Bounded("p1,", ",1;", 0, 9),
        new Bounded("p1,1,", ";", 0, 9),
        new Bounded("r", ";", 1, 20),
        new Bounded("f", ";", 1, 20),
    };

    public static void main(String[] args) {
        letterIs32To126();
        textIs200LettersAtMost();
        textOf199And200LettersIsLaid();
        letter201EndsNoItem();
        itemIsOneOfFourLetters();
        numberIsOneOrTwoFigures();
        numberIsOfFiguresAlone();
        numbersArePartedByCommas();
        semicolonIsBehindTheLastNumber();
        itemHasAllItsNumbersAndNoMore();
        numberIsWithinItsBounds();
        numberAtItsBoundsIsLaid();
        membersAreSevenAtMost();
        membersAreNumberedFrom0();
        whatHoldsWithoutAnItem();
        lastOfSeveralCounts();
        faultIsWhereTheFirstItemBegins();
        faultAtTheFirstAndTheLastLetter();
        emptyTextHasNoFault();
        aMemberAtLeastIsLaid();
        wipeOfNoneOneAndAllLetters();
        layTakesBackAllButTheText();
        newObjectIsAsTold();
        memberThatThereIsNot();
        memberOfWhatThereIsNot();
        call512IsAnsweredAsTheFirst();
        CHECK.finish("bounds of the text");
    }

    private static void fault(String text, int due) {
        CHECK.due("fault of \"" + text + "\"", Check.written(text).fault(), due);
    }

    private static void letterIs32To126() {
        int[] letters = {32, 33, 125, 126};
        for (int letter : letters) {
            CHECK.due("write " + letter, new SpoonVotes().write(letter), 1);
        }
        int[] none = {31, 30, 127, 128, 0, -1, -32, 10, 255, 256 + 32, 65536 + 32, Integer.MIN_VALUE,
            Integer.MIN_VALUE + 32, Integer.MAX_VALUE};
        for (int letter : none) {
            SpoonVotes x = new SpoonVotes();
            CHECK.due("write " + letter, x.write(letter), BAD);
            CHECK.due("length behind write " + letter, x.count(10), 0);
        }
    }

    private static void textIs200LettersAtMost() {
        SpoonVotes x = Check.written("x".repeat(198));
        CHECK.due("198 letters", x.count(10), 198);
        CHECK.due("letter 199", x.write('x'), 199);
        CHECK.due("letter 200", x.write('x'), 200);
        CHECK.due("letter 201", x.write('x'), FULL);
        CHECK.due("no letter as letter 201", x.write(127), BAD);
        CHECK.due("200 letters", x.count(10), 200);
        CHECK.due("wipe of 200", x.wipe(), 200);
        CHECK.due("a letter behind that", x.write('x'), 1);
    }

    private static void textOf199And200LettersIsLaid() {
        String of199 = MEMBER + "r05;" + "r5;".repeat(61) + "r7;";
        String of200 = MEMBER + "r05;" + "r05;" + "r5;".repeat(60) + "r8;";
        CHECK.due("199 letters are meant", of199.length(), 199);
        CHECK.due("200 letters are meant", of200.length(), 200);
        fault(of199, NONE);
        fault(of200, NONE);
        CHECK.due("lay of 199 letters", Check.written(of199).lay(), 1);
        CHECK.due("lay of 200 letters", Check.written(of200).lay(), 1);
        CHECK.due("the last item of 199 letters counts", Check.laid(of199).count(4), 7);
        CHECK.due("the last item of 200 letters counts", Check.laid(of200).count(4), 8);
    }

    private static void letter201EndsNoItem() {
        SpoonVotes x = Check.written(MEMBER + "r5;".repeat(63) + "r5");
        CHECK.due("200 letters", x.count(10), 200);
        CHECK.due("the ; behind them", x.write(';'), FULL);
        CHECK.due("the fault of the item without it", x.fault(), 198);
        CHECK.due("lay of the item without it", x.lay(), NO);
    }

    private static void itemIsOneOfFourLetters() {
        for (int letter = 32; letter <= 126; letter++) {
            char sign = (char) letter;
            fault(sign + "1;", sign == 'r' || sign == 'f' ? NONE : 0);
            fault(sign + "1,1,1;", sign == 'p' ? NONE : 0);
            fault(sign + "1,1,1,1;", sign == 'm' ? NONE : 0);
            fault(sign + ";", 0);
            fault("r5;" + sign, 3);
        }
    }

    private static void numberIsOneOrTwoFigures() {
        for (Bounded number : NUMBERS) {
            fault(number.with(""), 0);
            fault(number.with("1"), NONE);
            fault(number.with("01"), NONE);
            fault(number.with("001"), 0);
            fault(number.with("010"), 0);
            fault(number.with("0001"), 0);
        }
    }

    private static void numberIsOfFiguresAlone() {
        // '/' is just below '0', ':' is just above '9'.
        String[] none = {"/", ":", " ", "-", "+", "x", "m"};
        for (Bounded number : NUMBERS) {
            for (String sign : none) {
                fault(number.with(sign), 0);
                fault(number.with(sign + "1"), 0);
                fault(number.with("1" + sign), 0);
                fault(number.with("01" + sign), 0);
            }
        }
    }

    private static void numbersArePartedByCommas() {
        // '+' and '-' are beside ','.
        String[] none = {"+", "-", ".", ";", " ", ",,", ", ", " ,", ""};
        for (String sign : none) {
            fault("m1" + sign + "1,1,1;", 0);
            fault("m1,1" + sign + "1,1;", 0);
            fault("m1,1,1" + sign + "1;", 0);
            fault("p1" + sign + "1,1;", 0);
            fault("p1,1" + sign + "1;", 0);
        }
    }

    private static void semicolonIsBehindTheLastNumber() {
        // ':' and '<' are beside ';'.
        String[] none = {":", "<", ",", ".", " ", " ;", ",;", ""};
        String[] items = {"m1,1,1,1", "p1,1,1", "r1", "f1"};
        for (String item : items) {
            fault(item + ";", NONE);
            fault(item + ";;", item.length() + 1);
            fault(item + "; ", item.length() + 1);
            for (String sign : none) {
                fault(item + sign, 0);
                fault(item + sign + "r1;", 0);
            }
        }
    }

    private static void itemHasAllItsNumbersAndNoMore() {
        int[] many = {4, 3, 1, 1};
        char[] letters = {'m', 'p', 'r', 'f'};
        for (int k = 0; k < letters.length; k++) {
            for (int numbers = 1; numbers <= 6; numbers++) {
                String item = letters[k] + "1" + ",1".repeat(numbers - 1) + ";";
                fault(item, numbers == many[k] ? NONE : 0);
            }
        }
    }

    private static void numberIsWithinItsBounds() {
        for (Bounded number : NUMBERS) {
            for (int n = 0; n <= 99; n++) {
                int due = n < number.lowest || n > number.greatest ? 0 : NONE;
                fault(number.with("" + n), due);
                fault(number.with(n < 10 ? "0" + n : "" + n), due);
            }
            fault(number.with("100"), 0);
            fault(number.with("-1"), 0);
        }
    }

    private static void numberAtItsBoundsIsLaid() {
        for (int kind = 0; kind <= 3; kind++) {
            CHECK.due("KIND " + kind, Check.laid("m" + kind + ",1,1,1;").member(0, 0), kind);
        }
        int[] spoons = {1, 2, 8, 9};
        for (int spoon : spoons) {
            CHECK.due("SPOON " + spoon, Check.laid("m0," + spoon + ",1,1;").member(0, 1), spoon);
        }
        int[] hungers = {0, 1, 9, 10, 59, 60};
        for (int hunger : hungers) {
            CHECK.due("HUNGER " + hunger, Check.laid("m0,1," + hunger + ",1;").member(0, 2), hunger);
        }
        int[] amounts = {0, 1, 9, 10, 11, 90, 98, 99};
        for (int amount : amounts) {
            CHECK.due("POT " + amount, Check.laid(MEMBER + "p" + amount + ",1,1;").count(1), amount);
        }
        int[] salts = {0, 1, 8, 9};
        for (int n : salts) {
            CHECK.due("SALT borne " + n, Check.laid("m0,1,1," + n + ";").member(0, 3), n);
            CHECK.due("HEAT " + n, Check.laid(MEMBER + "p1," + n + ",1;").count(2), n);
            CHECK.due("SALT " + n, Check.laid(MEMBER + "p1,1," + n + ";").count(3), n);
        }
        int[] twenty = {1, 2, 9, 10, 19, 20};
        for (int n : twenty) {
            CHECK.due("R " + n, Check.laid(MEMBER + "r" + n + ";").count(4), n);
            CHECK.due("F " + n, Check.laid("m0,1,0,0;f" + n + ";").fast(), n);
        }
    }

    private static void membersAreSevenAtMost() {
        for (int many = 1; many <= 7; many++) {
            fault(MEMBER.repeat(many), NONE);
            CHECK.due("lay of " + many, Check.written(MEMBER.repeat(many)).lay(), many);
            CHECK.due("count of " + many, Check.laid(MEMBER.repeat(many)).count(0), many);
        }
        fault(MEMBER.repeat(8), 63);
        fault(MEMBER.repeat(9), 63);
        fault(MEMBER.repeat(7) + "r5;p1,1,1;f5;" + MEMBER, 76);
        fault("r5;" + MEMBER.repeat(6) + "r6;" + MEMBER + MEMBER, 69);
        CHECK.due("lay of eight", Check.written(MEMBER.repeat(8)).lay(), NO);
        CHECK.due("nothing is laid of eight", laidInVain(MEMBER.repeat(8)).count(0), 5);
    }

    private static SpoonVotes laidInVain(String text) {
        SpoonVotes x = Check.written(text);
        x.lay();
        return x;
    }

    private static void membersAreNumberedFrom0() {
        StringBuilder text = new StringBuilder();
        for (int i = 0; i < 7; i++) {
            text.append("m0,").append(i + 1).append(",").append(10 * (i + 1) % 61).append(",2;r5;");
        }
        SpoonVotes x = Check.laid(text.toString());
        for (int i = 0; i < 7; i++) {
            CHECK.due("S of " + i, x.member(i, 1), i + 1);
            CHECK.due("H of " + i, x.member(i, 2), 10 * (i + 1) % 61);
        }
        CHECK.due("there is no 7", x.member(7, 1), BAD);
        CHECK.due("there is no -1", x.member(-1, 1), BAD);
    }

    private static void whatHoldsWithoutAnItem() {
        SpoonVotes x = Check.laid(MEMBER);
        CHECK.due("without p: pot", x.count(1), 30);
        CHECK.due("without p: heat", x.count(2), 4);
        CHECK.due("without p: salt", x.count(3), 1);
        CHECK.due("without r: R", x.count(4), 5);
        CHECK.due("without f: hungrier by", x.fast(), 2 + 6);
        x.wipe();
        Check.write(x, MEMBER + "p1,2,3;r4;f5;");
        x.lay();
        x.wipe();
        Check.write(x, MEMBER);
        CHECK.due("lay behind others", x.lay(), 1);
        CHECK.due("without p behind one: pot", x.count(1), 30);
        CHECK.due("without p behind one: heat", x.count(2), 4);
        CHECK.due("without p behind one: salt", x.count(3), 1);
        CHECK.due("without r behind one: R", x.count(4), 5);
        CHECK.due("without f behind one: hungrier by", x.fast(), 2 + 6);
    }

    private static void lastOfSeveralCounts() {
        SpoonVotes two = Check.laid("p9,8,7;r6;f5;" + MEMBER + "p10,9,8;r7;f6;");
        SpoonVotes three = Check.laid("p9,8,7;p10,9,8;r6;r7;f4;f5;" + MEMBER + "f3;p0,0,0;r1;");
        int[][] due = {{1, 10, 0}, {2, 9, 0}, {3, 8, 0}, {4, 7, 1}};
        for (int[] row : due) {
            CHECK.due("the last of two: count " + row[0], two.count(row[0]), row[1]);
            CHECK.due("the last of three: count " + row[0], three.count(row[0]), row[2]);
        }
        CHECK.due("the last of two fasts", two.fast(), 8);
        CHECK.due("the last of three fasts", three.fast(), 5);
        String[] wrongFirst = {"r0;r5;", "f21;f5;", "p1,10,1;p1,1,1;"};
        for (String text : wrongFirst) {
            fault(text + MEMBER, 0);
            CHECK.due("lay of " + text, Check.written(text + MEMBER).lay(), NO);
        }
    }

    private static void faultIsWhereTheFirstItemBegins() {
        fault("r0;f0;", 0);
        fault("r1;f0;r0;", 3);
        fault("r1;f1;r0;x", 6);
        fault("m0,1,1,10;r0;", 0);
        fault("r20;m0,1,1,10;r0;", 4);
        fault("p99,9,9;m0,1,1", 8);
        fault("p99,9,9;m0,1,1,1", 8);
        fault("p99,9,9;m0,1,1,1;", NONE);
        fault("m0,1,1,1;p1,1,1,1;r1;", 9);
        fault("m0,1,1,1;p1,1;r1;", 9);
    }

    private static void faultAtTheFirstAndTheLastLetter() {
        fault("x", 0);
        fault("x" + "r5;".repeat(66), 0);
        fault(MEMBER + "r05;" + "r5;".repeat(62) + "x", 199);
        fault(MEMBER + "r05;" + "r5;".repeat(62) + "r", 199);
        fault(MEMBER + "r05;" + "r05;" + "r5;".repeat(61) + "", NONE);
        fault(MEMBER + "r5;".repeat(63) + "r1", 198);
    }

    private static void emptyTextHasNoFault() {
        CHECK.due("fault of nothing written", new SpoonVotes().fault(), NONE);
        SpoonVotes x = Check.written("x");
        CHECK.due("fault of x", x.fault(), 0);
        x.wipe();
        CHECK.due("fault of x wiped", x.fault(), NONE);
        x.write(127);
        CHECK.due("fault of what was refused", x.fault(), NONE);
        fault("r5;", NONE);
        fault("p1,1,1;f5;", NONE);
    }

    private static void aMemberAtLeastIsLaid() {
        CHECK.due("lay of nothing", new SpoonVotes().lay(), NO);
        CHECK.due("lay of no member", Check.written("p1,1,1;r5;f5;").lay(), NO);
        CHECK.due("no member: the first ones stay", laidInVain("p1,1,1;r5;f5;").count(0), 5);
        CHECK.due("no member: the first pot stays", laidInVain("p1,1,1;r5;f5;").count(1), 40);
        CHECK.due("lay of one", Check.written("p1,1,1;r5;f5;" + MEMBER).lay(), 1);
        CHECK.due("lay of one with a fault", Check.written(MEMBER + "r0;").lay(), NO);
        CHECK.due("with a fault the first ones stay", laidInVain(MEMBER + "r0;").count(0), 5);
    }

    private static void wipeOfNoneOneAndAllLetters() {
        int[] lengths = {0, 1, 2, 199, 200};
        for (int length : lengths) {
            SpoonVotes x = Check.written(" ".repeat(length));
            CHECK.due("wipe of " + length, x.wipe(), length);
            CHECK.due("wipe behind wipe of " + length, x.wipe(), 0);
            CHECK.due("length behind wipe of " + length, x.count(10), 0);
        }
        CHECK.due("wipe of what is over 200", Check.written(" ".repeat(201)).wipe(), 200);
    }

    private static void layTakesBackAllButTheText() {
        SpoonVotes x = Check.written(MEMBER + "m1,9,60,9;p99,9,9;");
        x.lay();
        x.eat(20);
        for (int k = 0; k < 9; k++) {
            x.trade(0, 1);
            x.seen(0, k);
            x.keep();
        }
        int[] full = {6, 8, 2, 24 + 3};
        for (int k = 0; k < full.length; k++) {
            CHECK.due("full: count " + (7 + k), x.count(7 + k), full[k]);
        }
        CHECK.due("eaten", x.count(6), 60);
        CHECK.due("lay anew", x.lay(), 2);
        int[] counts = {2, 99, 9, 9, 5, 62, 0, 0, 0, 0, 27};
        for (int what = 0; what < counts.length; what++) {
            CHECK.due("laid anew: count " + what, x.count(what), counts[what]);
        }
        int[][] members = {{0, 1, 2, 3, 0, 0}, {1, 9, 60, 9, 0, 0}};
        for (int i = 0; i < members.length; i++) {
            for (int what = 0; what < 6; what++) {
                CHECK.due("laid anew: member " + i + ", " + what, x.member(i, what), members[i][what]);
            }
        }
        CHECK.due("laid anew: undo", x.undo(), NO);
        CHECK.due("laid anew: back", x.back(), NO);
        CHECK.due("laid anew: forget", x.forget(), 0);
        CHECK.due("laid anew: fault", x.fault(), NONE);
    }

    private static void newObjectIsAsTold() {
        SpoonVotes x = new SpoonVotes();
        CHECK.due("a new text is empty", x.count(10), 0);
        CHECK.due("its first letter", x.write('r'), 1);
        CHECK.due("a letter is its fault", x.fault(), 0);
        SpoonVotes told = Check.laid("m0,3,12,6;m1,4,20,3;m2,2,9,5;m3,5,30,9;m0,1,8,2;p40,6,2;r5;f6;");
        SpoonVotes fresh = new SpoonVotes();
        for (int what = 0; what < 10; what++) {
            CHECK.due("as told: count " + what, fresh.count(what), told.count(what));
        }
        for (int i = 0; i < 5; i++) {
            for (int what = 0; what < 6; what++) {
                CHECK.due("as told: member " + i + ", " + what, fresh.member(i, what), told.member(i, what));
            }
        }
        CHECK.due("as told: fast", fresh.fast(), told.fast());
        CHECK.due("another object is another", new SpoonVotes().count(2), 6);
    }

    private static void memberThatThereIsNot() {
        for (int many = 1; many <= 7; many++) {
            SpoonVotes x = Check.laid(MEMBER.repeat(many));
            for (int what = 0; what < 6; what++) {
                CHECK.due("member -1 of " + many, x.member(-1, what), BAD);
                CHECK.isTrue("member 0 of " + many, x.member(0, what) >= 0);
                CHECK.isTrue("the last of " + many, x.member(many - 1, what) >= 0);
                CHECK.due("one beyond the last of " + many, x.member(many, what), BAD);
            }
            CHECK.due("member MIN of " + many, x.member(Integer.MIN_VALUE, 0), BAD);
            CHECK.due("member MAX of " + many, x.member(Integer.MAX_VALUE, 0), BAD);
        }
        SpoonVotes fewer = Check.laid(MEMBER.repeat(7));
        fewer.wipe();
        Check.write(fewer, MEMBER.repeat(2));
        CHECK.due("lay of fewer", fewer.lay(), 2);
        CHECK.due("member 1 of fewer", fewer.member(1, 1), 1);
        CHECK.due("member 2 of fewer", fewer.member(2, 1), BAD);
    }

    private static void memberOfWhatThereIsNot() {
        SpoonVotes x = new SpoonVotes();
        int[] due = {0, 3, 12, 6, 0, 3};
        for (int what = 0; what < due.length; what++) {
            CHECK.due("member 0, " + what, x.member(0, what), due[what]);
        }
        int[] none = {-1, -2, 6, 7, Integer.MIN_VALUE, Integer.MAX_VALUE};
        for (int what : none) {
            CHECK.due("member 0, " + what, x.member(0, what), BAD);
            CHECK.due("member 4, " + what, x.member(4, what), BAD);
        }
    }

    private static void call512IsAnsweredAsTheFirst() {
        SpoonVotes x = new SpoonVotes();
        CHECK.due("call 1: keep", x.keep(), 1);
        for (int call = 2; call <= 508; call++) {
            x.fast();
        }
        CHECK.due("call 509: the last eight acts", x.count(8), 8);
        CHECK.due("call 510: undo", x.undo(), 7);
        CHECK.due("call 511: back", x.back(), 0);
        CHECK.due("call 512: as kept", x.count(5), 79);
    }
}
