/** Counts and prints the answers of a test that are not the ones that are due. */
final class Check {
    private final String title;
    private int asked;
    private int wrong;

    Check(String title) {
        this.title = title;
    }

    void due(String call, long got, long want) {
        asked++;
        if (got != want) {
            wrong++;
            System.out.println(title + ": " + call + " answered " + got + ", due is " + want);
        }
    }

    /** Prints what came out; ends with exit code 1 if an answer was wrong. */
    void end() {
        System.out.println(title + ": " + asked + " answers, " + wrong + " wrong");
        if (wrong != 0) {
            System.exit(1);
        }
    }

    static ThumbOut feed(ThumbOut x, String text) {
        for (int i = 0; i < text.length(); i++) {
            x.feed(text.charAt(i));
        }
        return x;
    }

    static int law(ThumbOut x, String text) {
        return feed(x, text).law();
    }

    static int rule(ThumbOut x, String text) {
        return feed(x, text).rule();
    }

    /** Puts a row on a shelf. */
    static void row(ThumbOut x, int shelf, int sort, long... elements) {
        x.row(shelf, sort, elements.length);
        for (int i = 0; i < elements.length; i++) {
            x.put(shelf, i, elements[i]);
        }
    }
}
