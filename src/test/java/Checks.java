import java.nio.charset.StandardCharsets;

/** What the tests of the project share: a count of answers, and a way to tell a shop as a text. */
final class Checks {
    private final String name;
    private String sentence = "";
    private int right = 0;
    private int wrong = 0;

    Checks(String name) {
        this.name = name;
    }

    /** The sentence of the document that the answers from here on are due by. */
    void about(String told) {
        sentence = "[" + told + "] ";
    }

    void due(String call, long got, long want) {
        same(call, Long.toString(got), Long.toString(want));
    }

    void same(String call, String got, String want) {
        if (got.equals(want)) {
            right++;
        } else {
            wrong++;
            if (wrong <= 50) {
                String[] other = firstOther(got, want);
                System.out.println(name + ": " + sentence + call + " answered " + other[0] + ", due is " + other[1]);
            }
        }
    }

    /** Of two rows of answers between blanks, the first that aren't the same. */
    private static String[] firstOther(String got, String want) {
        String[] here = got.split(" ");
        String[] there = want.split(" ");
        for (int i = 0; i < here.length && i < there.length; i++) {
            if (!here[i].equals(there[i])) {
                return new String[] {here[i], there[i]};
            }
        }
        return new String[] {here.length + " answers", there.length + " answers"};
    }

    boolean anyWrong() {
        return wrong > 0;
    }

    void end() {
        System.out.println(name + ": " + right + " answers as due, " + wrong + " not");
        if (wrong > 0) {
            System.exit(1);
        }
    }

    /** The ints that feed() takes, five for each twenty bytes, blanks behind the text. */
    static int[] ints(byte[] text) {
        int feeds = (text.length + 19) / 20;
        int[] ints = new int[feeds * 5];
        for (int i = 0; i < feeds * 20; i++) {
            int c = i < text.length ? text[i] & 255 : ' ';
            ints[i / 4] |= c << (24 - 8 * (i % 4));
        }
        return ints;
    }

    static void feed(OneOfEach x, String text) {
        int[] ints = ints(text.getBytes(StandardCharsets.ISO_8859_1));
        for (int i = 0; i < ints.length; i += 5) {
            x.feed(ints[i], ints[i + 1], ints[i + 2], ints[i + 3], ints[i + 4]);
        }
    }

    static int tell(OneOfEach x, String text) {
        feed(x, text);
        return x.shop(text.length());
    }

    static OneOfEach shop(String text) {
        OneOfEach x = new OneOfEach();
        int lines = tell(x, text);
        if (lines < 1) {
            throw new IllegalStateException("a test's text has a fault: " + text + " " + lines + " at " + x.fault(1));
        }
        return x;
    }

    /** x, looked at and left as it is: no more calls can be undone behind it than ahead (the eldest of ten is forgotten). */
    static int xOf(OneOfEach x) {
        int was = x.seed(0);
        x.undo(1);
        return was;
    }

    static void tray(OneOfEach x, int tray, long... numbers) {
        x.numbers(tray, 3, numbers.length);
        for (int i = 0; i < numbers.length; i++) {
            x.write(tray, i, numbers[i]);
        }
    }
}
