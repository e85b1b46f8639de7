/** Counts answers and prints each that is not the one that is due. */
final class Check {
    private int answers;
    private int wrong;

    void due(String call, long got, long want) {
        answers++;
        if (got != want) {
            wrong++;
            System.out.println(call + " answered " + got + ", due is " + want);
        }
    }

    void isTrue(String claim, boolean holds) {
        answers++;
        if (!holds) {
            wrong++;
            System.out.println("not so: " + claim);
        }
    }

    /** Ends the program with exit code 1 if an answer was wrong. */
    void finish(String test) {
        System.out.println(test + ": " + answers + " answers, " + wrong + " wrong");
        if (wrong != 0 || answers == 0) {
            System.exit(1);
        }
    }

    static SpoonVotes written(String text) {
        SpoonVotes votes = new SpoonVotes();
        write(votes, text);
        return votes;
    }

    static void write(SpoonVotes votes, String text) {
        for (int place = 0; place < text.length(); place++) {
            votes.write(text.charAt(place));
        }
    }

    static SpoonVotes laid(String text) {
        SpoonVotes votes = written(text);
        if (votes.lay() < 1) {
            throw new IllegalStateException("not laid: " + text);
        }
        return votes;
    }
}
