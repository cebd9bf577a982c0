/** Counts and prints the answers of a test that are not the ones that are due. */
final class Check {
    private final String title;
    private int asked;
    private int wrong;

    Check(String title) {
        this.title = title;
    }

    void due(String call, long got, long want) {
        asked++;
        if (got != want) {
            wrong++;
            System.out.println(title + ": " + call + " answered " + got + ", due is " + want);
        }
    }

    /** Prints what came out; ends with exit code 1 if an answer was wrong. */
    void end() {
        System.out.println(title + ": " + asked + " answers, " + wrong + " wrong");
        if (wrong != 0) {
            System.exit(1);
        }
    }

    static ThumbOut feed(ThumbOut x, String text) {
        for (int i = 0; i < text.length(); i++) {
            x.feed(text.charAt(i));
        }
        return x;
    }

    static int law(ThumbOut x, String text) {
        return feed(x, text).law();
    }

    static int rule(ThumbOut x, String text) {
        return feed(x, text).rule();
    }

    /** The seed by which a car of a road has a sum of which its draw is worked out. */
    static int seed(int road, int j, int sum) {
        return (int) (sum - (j + 1) * 1103515245L - (road + 1) * 12345L);
    }

    /** Sets the seed so that a car of a road has a draw (0 .. 999) that the next 255 seeds leave as it is. */
    static void draw(ThumbOut x, int road, int j, int draw) {
        x.set(5, seed(road, j, 256 * draw));
    }

    /** An object with some places of room 5 without pumps. */
    static ThumbOut places(int n) {
        ThumbOut x = new ThumbOut();
        for (int i = 0; i < n; i++) {
            x.place(50);
        }
        return x;
    }

    /** Makes a text a law and puts it in force. */
    static ThumbOut force(ThumbOut x, String text) {
        x.force(law(x, text));
        return x;
    }

    /** Puts a row on a shelf. */
    static void row(ThumbOut x, int shelf, int sort, long... elements) {
        x.row(shelf, sort, elements.length);
        for (int i = 0; i < elements.length; i++) {
            x.put(shelf, i, elements[i]);
        }
    }
}
