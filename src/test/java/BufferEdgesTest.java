/** The boundary cases of promises 2 to 5 that the text in the buffer makes. */
final class BufferEdgesTest {
    private static final String LETTERS = "ABCDEFGHIJKLMNOPQRSTUVWXYZ";
    private static final String DIGITS = "0123456789";
    private static final String NOT_ZERO = "123456789";
    private static final String BLANK = " ";
    private static final Due DUE = new Due();

    public static void main(String[] args) {
        everyCodeFromLowToHigh();
        codesThatWrapAround();
        everyLengthUpTo28();
        aBufferThatIsFilledAgain();
        clearBufferAtEveryLength();
        everySignAtEveryPlace();
        everySignAtEveryPlaceBehindAShortName();
        theFirstWrongSignCounts();
        theValuesOfTheNumbersDoNotMatter();
        everyUnfinishedGlassIsInvalid();
        everySignMoreIsInvalid();
        everyWrongSignIsInvalid();
        namesOfOneToSixSigns();
        aRefusedGlassCanBeFinished();
        DUE.end();
    }

    /** The digest ends with the codes, so that it tells which code the buffer holds. */
    private static void everyCodeFromLowToHigh() {
        CountedDesk blank = new CountedDesk();
        blank.append(32);
        long digestOfBlank = blank.digest();
        for (int ch = -300; ch <= 300; ch++) {
            CountedDesk desk = new CountedDesk();
            boolean isAllowed = ch >= 32 && ch <= 126;
            DUE.due("P2 append(" + ch + ")", desk.append(ch), isAllowed ? 1 : AchromatDesk.OUT_OF_RANGE);
            if (isAllowed) {
                DUE.due("P2 the code " + ch + " is kept", desk.digest() - digestOfBlank, ch - 32);
            }
            DUE.due("P3 clearBuffer() behind " + ch, desk.clearBuffer(), isAllowed ? 1 : 0);
        }
    }

    private static void codesThatWrapAround() {
        CountedDesk desk = new CountedDesk();
        for (int bits = 8; bits <= 31; bits++) {
            int over = 65 + (1 << bits);
            DUE.due("P2 append(" + over + ")", desk.append(over), AchromatDesk.OUT_OF_RANGE);
            int under = 65 - (1 << bits);
            DUE.due("P2 append(" + under + ")", desk.append(under), AchromatDesk.OUT_OF_RANGE);
        }
        DUE.due("P2 the least int", desk.append(Integer.MIN_VALUE), AchromatDesk.OUT_OF_RANGE);
        DUE.due("P2 the greatest int", desk.append(Integer.MAX_VALUE), AchromatDesk.OUT_OF_RANGE);
        DUE.due("P3 nothing was kept", desk.clearBuffer(), 0);
    }

    private static void everyLengthUpTo28() {
        CountedDesk desk = new CountedDesk();
        for (int length = 1; length <= 28; length++) {
            DUE.due("P2 sign " + length, desk.append(32 + length), length);
        }
        long digest = desk.digest();
        for (int again = 0; again < 3; again++) {
            DUE.due("P2 sign 29", desk.append(126), AchromatDesk.FULL);
            DUE.due("P2 digest() behind it", desk.digest(), digest);
        }
        DUE.due("P3 clearBuffer() of 28 signs", desk.clearBuffer(), 28);
    }

    private static void aBufferThatIsFilledAgain() {
        CountedDesk desk = new CountedDesk();
        for (int round = 0; round < 3; round++) {
            for (int length = 1; length <= 28; length++) {
                DUE.due("P2 sign " + length + " of round " + round, desk.append('A'), length);
            }
            DUE.due("P2 sign 29 of round " + round, desk.append('A'), AchromatDesk.FULL);
            DUE.due("P3 clearBuffer() of round " + round, desk.clearBuffer(), 28);
        }
        Due.type(desk, "ABCDEF 152238 151680 151432");
        DUE.due("P5 the longest glass", desk.addGlass(), 0);
        for (int length = 1; length <= 28; length++) {
            DUE.due("P2 sign " + length + " behind a glass", desk.append('A'), length);
        }
        DUE.due("P2 sign 29 behind a glass", desk.append('A'), AchromatDesk.FULL);
    }

    private static void clearBufferAtEveryLength() {
        for (int length = 0; length <= 28; length++) {
            CountedDesk desk = new CountedDesk();
            Due.type(desk, "~".repeat(length));
            DUE.due("P3 clearBuffer() of " + length, desk.clearBuffer(), length);
            DUE.due("P3 clearBuffer() again", desk.clearBuffer(), 0);
            DUE.due("P3 errorPosition() behind it", desk.errorPosition(), 0);
            DUE.due("P3 a letter behind it", desk.append('A'), 1);
            DUE.due("P3 errorPosition() of the letter", desk.errorPosition(), 1);
        }
    }

    private static void signsAt(String before, String allowed) {
        for (int ch = 32; ch <= 126; ch++) {
            CountedDesk desk = new CountedDesk();
            Due.type(desk, before);
            desk.append(ch);
            int due = allowed.indexOf(ch) >= 0 ? before.length() + 1 : before.length();
            DUE.due("P4 of '" + before + (char) ch + "'", desk.errorPosition(), due);
        }
    }

    /** The three numbers behind a name, each with a blank before it, and then nothing more. */
    private static void numbersBehind(String name) {
        String text = name;
        for (int number = 0; number < 3; number++) {
            text += " ";
            signsAt(text, NOT_ZERO);
            for (int digit = 0; digit < 5; digit++) {
                text += 9 - digit;
                signsAt(text, DIGITS);
            }
            text += 0;
            signsAt(text, number < 2 ? BLANK : "");
        }
    }

    private static void everySignAtEveryPlace() {
        signsAt("", LETTERS);
        for (int length = 1; length <= 5; length++) {
            signsAt("AB0Z9".substring(0, length), LETTERS + DIGITS + BLANK);
        }
        signsAt("AB0Z9X", BLANK);
        numbersBehind("AB0Z9X");
    }

    private static void everySignAtEveryPlaceBehindAShortName() {
        numbersBehind("Z");
        for (String name : new String[] {"ZA", "Z9A", "A000", "ZZZZZ"}) {
            signsAt(name + " 100000 100000 100000", "");
        }
    }

    private static void theFirstWrongSignCounts() {
        String text = "ABCDEF 152238 151680 151432";
        for (int wrong = 0; wrong < text.length(); wrong++) {
            CountedDesk desk = new CountedDesk();
            Due.type(desk, text.substring(0, wrong) + "~" + text.substring(wrong + 1) + "~");
            DUE.due("P4 '~' at " + wrong, desk.errorPosition(), wrong);
            CountedDesk rest = new CountedDesk();
            Due.type(rest, text.substring(0, wrong) + "~".repeat(28 - wrong));
            DUE.due("P4 '~' from " + wrong + " on", rest.errorPosition(), wrong);
        }
    }

    private static void theValuesOfTheNumbersDoNotMatter() {
        String[] texts = {"A 999999 999999 999999", "A 100000 100000 100000", "A 100000 500000 999999"};
        for (String text : texts) {
            CountedDesk desk = new CountedDesk();
            Due.type(desk, text);
            DUE.due("P4 of '" + text + "'", desk.errorPosition(), 22);
            DUE.due("P5 of '" + text + "'", desk.addGlass(), AchromatDesk.OUT_OF_RANGE);
        }
    }

    private static void everyUnfinishedGlassIsInvalid() {
        String[] texts = {"A 152238 151680 151432", "ABCDEF 152238 151680 151432"};
        for (String text : texts) {
            for (int length = 0; length < text.length(); length++) {
                CountedDesk desk = new CountedDesk();
                Due.type(desk, text.substring(0, length));
                DUE.due("P4 of " + length + " signs of '" + text + "'", desk.errorPosition(), length);
                DUE.due("P5 of " + length + " signs of '" + text + "'",
                    desk.addGlass(), AchromatDesk.INVALID_GLASS);
            }
        }
    }

    private static void everySignMoreIsInvalid() {
        for (int ch = 32; ch <= 126; ch++) {
            CountedDesk desk = new CountedDesk();
            Due.type(desk, "A 152238 151680 151432" + (char) ch);
            DUE.due("P5 with '" + (char) ch + "' behind it", desk.addGlass(), AchromatDesk.INVALID_GLASS);
        }
    }

    private static void everyWrongSignIsInvalid() {
        String text = "ABCDEF 152238 151680 151432";
        for (int wrong = 0; wrong < text.length(); wrong++) {
            CountedDesk desk = new CountedDesk();
            Due.type(desk, text.substring(0, wrong) + "~" + text.substring(wrong + 1));
            DUE.due("P5 with '~' at " + wrong, desk.addGlass(), AchromatDesk.INVALID_GLASS);
        }
    }

    private static void namesOfOneToSixSigns() {
        String[] names = {"A", "Z", "A0", "Z9", "AZ0", "B999", "C00000", "ZZZZZZ", "AAAAAA"};
        for (String name : names) {
            CountedDesk desk = new CountedDesk();
            Due.type(desk, name + " 152238 151680 151432");
            DUE.due("P5 the name " + name, desk.addGlass(), 0);
            DUE.due("P5 nF of " + name, desk.index(0, 0), 152238);
            DUE.due("P5 nd of " + name, desk.index(0, 1), 151680);
            DUE.due("P5 nC of " + name, desk.index(0, 2), 151432);
            DUE.due("P5 the buffer behind " + name, desk.clearBuffer(), 0);
        }
        String[] wrong = {"", "AAAAAAA", "0", "9A", "a", "A-", "A a", " A"};
        for (String name : wrong) {
            CountedDesk desk = new CountedDesk();
            Due.type(desk, name + " 152238 151680 151432");
            DUE.due("P5 the name '" + name + "'", desk.addGlass(), AchromatDesk.INVALID_GLASS);
            DUE.due("P7 glassCount() behind it", desk.glassCount(), 0);
        }
    }

    private static void aRefusedGlassCanBeFinished() {
        CountedDesk desk = new CountedDesk();
        Due.type(desk, "ABCDEF 152238 151680 15143");
        DUE.due("P5 a digit is missing", desk.addGlass(), AchromatDesk.INVALID_GLASS);
        DUE.due("P2 the digit", desk.append('2'), 27);
        DUE.due("P5 the whole glass", desk.addGlass(), 0);
        DUE.due("P5 nC", desk.index(0, 2), 151432);
        DUE.due("P5 the same again", desk.addGlass(), AchromatDesk.INVALID_GLASS);
    }
}
