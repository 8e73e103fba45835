/** Counts the answers that were asked for and prints those that are not as due. */
final class Due {
    private int asked;
    private int wrong;
    private String about = "";

    void about(String promise) {
        about = promise;
    }

    void is(String call, long got, long want) {
        asked++;
        if (got != want) {
            wrong++;
            System.out.println(about + ": " + call + " answered " + got + ", due is " + want);
        }
    }

    int asked() {
        return asked;
    }

    int wrong() {
        return wrong;
    }

    /** Prints how many answers were as due, and ends with exit code 1 if one was not. */
    void close() {
        System.out.println((asked - wrong) + " answers as due, " + wrong + " not");
        if (wrong != 0) {
            System.exit(1);
        }
    }

    static void write(TinselRiver river, String text) {
        river.wipe();
        for (int i = 0; i < text.length(); i++) {
            river.write(text.charAt(i));
        }
    }

    static TinselRiver told(String text) {
        TinselRiver river = new TinselRiver();
        write(river, text);
        river.valley();
        return river;
    }
}
