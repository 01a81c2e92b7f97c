/** Compares answers with those that are due, prints each that is not, and ends the test. */
final class Due {
    static final String BK7 = "BK7 152238 151680 151432";
    static final String F2 = "F2 163208 162004 161506";
    static final String SF10 = "SF10 174648 172825 172085";
    static final String LAK9 = "LAK9 169796 169100 168795";
    static final String FK51 = "FK51 149056 148656 148480";

    private int calls;
    private int wrong;

    void due(String call, long got, long want) {
        calls++;
        if (got != want) {
            wrong++;
            System.out.println(call + " answered " + got + ", due is " + want);
        }
    }

    void isTrue(String what, boolean holds) {
        due(what, holds ? 1 : 0, 1);
    }

    /** Ends with exit code 1 if an answer was wrong, and also if nothing was asked at all. */
    void end() {
        System.out.println(wrong == 0 ? calls + " answers are as due" : wrong + " answers are not as due");
        if (wrong != 0 || calls == 0) {
            System.exit(1);
        }
    }

    static void type(CountedDesk desk, String text) {
        for (int at = 0; at < text.length(); at++) {
            desk.append(text.charAt(at));
        }
    }

    /** Types the text into an empty buffer and adds the glass. */
    static long add(CountedDesk desk, String text) {
        desk.clearBuffer();
        type(desk, text);
        return desk.addGlass();
    }

    static CountedDesk deskWith(String... glasses) {
        CountedDesk desk = new CountedDesk();
        for (String glass : glasses) {
            type(desk, glass);
            if (desk.addGlass() < 0) {
                throw new IllegalStateException("the test's own glass is refused: " + glass);
            }
        }
        return desk;
    }

    /** A glass text from a name and three indices. */
    static String glass(String name, int indexF, int indexD, int indexC) {
        return name + " " + indexF + " " + indexD + " " + indexC;
    }
}
