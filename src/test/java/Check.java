import java.nio.charset.StandardCharsets;
import java.util.Arrays;
import java.util.NoSuchElementException;

/** What the tests share: counting, and telling a war by its text. */
final class Check {
    private static int asked = 0;
    private static int wrong = 0;
    private static String under = "";

    private Check() {
    }

    static void due(String what, long want, long got) {
        asked++;
        if (got != want) {
            wrong++;
            System.out.println(under + what + " answered " + got + ", due is " + want);
        }
    }

    /** What stands ahead of each wrong answer's line from now on. */
    static void under(String heading) {
        under = heading;
    }

    static int asked() {
        return asked;
    }

    static void due(String what, boolean want, boolean got) {
        due(what, want ? 1 : 0, got ? 1 : 0);
    }

    /** An answer and the trouble that is told behind it. */
    static void due(String what, long want, long got, int trouble, ElephantLine x) {
        due(what, want, got);
        due("trouble() behind " + what, trouble, x.trouble());
    }

    static void due(String what, boolean want, boolean got, int trouble, ElephantLine x) {
        due(what, want ? 1 : 0, got ? 1 : 0, trouble, x);
    }

    static void dueThrow(String what, ElephantLine x, int i) {
        int thrown = 0;
        try {
            x.led(i);
        } catch (NoSuchElementException e) {
            thrown = 1;
        }
        due(what + " throws", 1, thrown);
    }

    /** The text comes behind the tape, filled up with blanks: how many bytes the tape has. */
    static int feed(ElephantLine x, String text) {
        return feed(x, text.getBytes(StandardCharsets.ISO_8859_1));
    }

    static int feed(ElephantLine x, byte[] text) {
        int has = x.size(11);
        for (int i = 0; i < text.length; i += 20) {
            byte[] part = new byte[20];
            Arrays.fill(part, (byte) ' ');
            System.arraycopy(text, i, part, 0, Math.min(20, text.length - i));
            has = x.feed(number(part, 0), number(part, 4), number(part, 8), number(part, 12), number(part, 16));
        }
        return has;
    }

    private static int number(byte[] part, int i) {
        return (part[i] & 255) << 24 | (part[i + 1] & 255) << 16 | (part[i + 2] & 255) << 8 | part[i + 3] & 255;
    }

    static int tell(ElephantLine x, String text) {
        feed(x, text);
        return x.war(text.length());
    }

    static ElephantLine told(String text) {
        ElephantLine x = new ElephantLine();
        due("war of " + text, 0, tell(x, text) < 0 ? 100 * x.fault() + x.where() + 1 : 0);
        return x;
    }

    /** A text without a fault, told to a new object, which is answered. */
    static ElephantLine fine(String text, int beasts) {
        ElephantLine x = new ElephantLine();
        due("war: " + text, beasts, tell(x, text), 0, x);
        due("fault: " + text, 0, x.fault());
        due("where: " + text, -1, x.where());
        due("tape: " + text, 0, x.size(11));
        return x;
    }

    /** A text with a fault, told to a new object. */
    static void faulty(String text, int fault, int place) {
        ElephantLine x = new ElephantLine();
        due("war: " + text, -1, tell(x, text), 4, x);
        due("fault: " + text, fault, x.fault());
        due("where: " + text, place, x.where());
        due("tape: " + text, 0, x.size(11));
        due("lanes: " + text, 0, x.size(0));
    }

    static void faultyAtEnd(String text, int fault) {
        faulty(text, fault, text.length());
    }

    /** The last token is the fault, whatever stands behind it. */
    static void faultyAtLast(String text, String last, int fault) {
        faulty(text + last, fault, text.length());
        faulty(text + last + " lane;", fault, text.length());
    }

    static void end(String name) {
        System.out.println(name + ": " + (asked - wrong) + " of " + asked + " answers as due");
        if (wrong != 0 || asked == 0) {
            System.exit(1);
        }
    }
}
