import java.util.stream.IntStream;

/** What the tests share: rows of due answers, texts put on the tape, and all that can be seen of an object. */
abstract class Check {
    private static int wrong = 0;
    private static int rows = 0;
    private static String about = "";

    /** Tells what the rows from here on are about. */
    static void about(String what) {
        about = what;
    }

    static void due(String what, long got, long want) {
        rows++;
        if (got != want) {
            wrong++;
            System.out.println(about + ": " + what + " answered " + got + ", due is " + want);
        }
    }

    static void due(String what, boolean got, boolean want) {
        due(what, got ? 1 : 0, want ? 1 : 0);
    }

    static void due(String what, String got, String want) {
        rows++;
        if (!got.equals(want)) {
            wrong++;
            System.out.println(about + ": " + what + " is\n  " + got + ", due is\n  " + want);
        }
    }

    /** Ends a test: with exit code 1 if a row was wrong. */
    static void finish() {
        System.out.println(wrong == 0 ? rows + " rows are as due" : wrong + " of " + rows + " rows are not as due");
        if (wrong != 0) {
            System.exit(1);
        }
    }

    static String times(int n, String s) {
        return s.repeat(n);
    }

    /** Puts a text on the tape, to the byte: fed up with blanks, which go again. */
    static void tape(LadderStreet x, String text) {
        int at = 0;
        while (at < text.length()) {
            int[] five = new int[5];
            for (int i = 0; i < 20; i++) {
                int sign = at + i < text.length() ? text.charAt(at + i) : ' ';
                five[i / 4] = five[i / 4] << 8 | sign & 255;
            }
            if (x.feed(five[0], five[1], five[2], five[3], five[4]) < 0) {
                throw new IllegalStateException("the tape is full");
            }
            at += 20;
        }
        x.back(at - text.length());
    }

    static int read(LadderStreet x, String text) {
        tape(x, text);
        return x.read();
    }

    /** A new object to which a text was told that has no FAULT. */
    static LadderStreet told(String text) {
        LadderStreet x = new LadderStreet();
        due("read of " + shortened(text), read(x, text), 0);
        return x;
    }

    /** A text's FAULT and its place; 0 and -1 without. */
    static void fault(String text, int number, int place) {
        LadderStreet x = new LadderStreet();
        due("read of " + shortened(text), read(x, text), number);
        due("place behind " + shortened(text), x.place(), place);
    }

    private static String shortened(String text) {
        int length = text.length();
        return length > 90 ? text.substring(0, 40) + " .. " + text.substring(length - 40) : text;
    }

    /** All that can be seen of an object without asking what would be; the tape, place() and some counts are left out. */
    static String seen(LadderStreet x, int... leftOut) {
        StringBuilder all = new StringBuilder("counts");
        for (int what = 0; what <= 16; what++) {
            int one = what;
            boolean in = what != 8 && IntStream.of(leftOut).noneMatch(out -> out == one);
            all.append(in ? " " + x.count(what) : "");
        }
        for (int person = 0; person < x.count(1); person++) {
            all.append("; person ").append(person).append(':');
            for (int what = 0; what <= 7; what++) {
                all.append(' ').append(x.person(person, what));
            }
        }
        for (int rung = 0; rung < x.count(0); rung++) {
            all.append("; rung ").append(rung).append(':');
            for (int what = 0; what <= 5; what++) {
                all.append(' ').append(x.rung(rung, what));
            }
        }
        for (int k = 1; k <= x.count(10); k++) {
            all.append("; trod ").append(x.trod(k, 1));
        }
        return all.toString();
    }
}
