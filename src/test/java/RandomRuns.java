import java.util.ArrayDeque;
import java.util.ArrayList;
import java.util.Arrays;
import java.util.Deque;
import java.util.HashMap;
import java.util.HashSet;
import java.util.List;
import java.util.Map;
import java.util.Random;
import java.util.Set;
import java.util.TreeMap;

/** Random runs of calls, each answered by LadderStreet and by Model, a second writing of the document. */
public final class RandomRuns {
    private static final int RUNS = 7000;
    // An object is used for at most 512 calls: what later ones answer is free.
    private static final int CALLS = 512;
    private static final int CALLS_OF_A_TEXT = 105;
    private static final int CALLS_TO_FILL = 101;
    private static int wrong = 0;
    private static int calls = 0;

    public static void main(String[] args) {
        int runs = args.length > 0 ? Integer.parseInt(args[0]) : RUNS;
        int from = args.length > 1 ? Integer.parseInt(args[1]) : 0;
        Map<String, Map<String, Integer>> seen = new TreeMap<>();
        for (int run = from; run < from + runs && wrong < 20; run++) {
            oneRun(run, seen);
        }
        for (Map.Entry<String, Map<String, Integer>> e : seen.entrySet()) {
            if (args.length > 2) {
                System.out.println(e.getKey() + " " + e.getValue());
            }
        }
        mustHaveSeen(seen, runs);
        System.out.println(wrong == 0 ? runs + " random runs are as due" : wrong + " answers are not as due");
        if (wrong != 0) {
            System.exit(1);
        }
    }

    /** Runs that never get to an answer would show nothing: each kind of answer must have come up. */
    private static void mustHaveSeen(Map<String, Map<String, Integer>> seen, int runs) {
        if (runs < RUNS) {
            return;
        }
        String[] due = {"read 0", "read 1", "read 2", "read 3", "read 5", "read 6", "errands -2", "errands n",
            "past -2", "past n", "alone -2", "alone n", "homes -2", "homes 0", "mendFirst -2", "mendFirst n",
            "meet -2", "meet n", "least -2", "ask -2", "ask n", "undo 0", "undo 1", "restore 0", "restore 1", "tell -1",
            "kept n", "enough n", "year n", "trod n", "pairs 2", "feed -1", "back -1"};
        for (String one : due) {
            String[] parts = one.split(" ");
            if (!seen.getOrDefault(parts[0], Map.of()).containsKey(parts[1])) {
                wrong++;
                System.out.println("no run came to " + one);
            }
        }
    }

    private static void oneRun(int run, Map<String, Map<String, Integer>> seen) {
        Random r = new Random(run * 7919L + 17);
        LadderStreet x = new LadderStreet();
        Model m = new Model();
        calls = 0;
        int asked = 0;
        while (calls < CALLS) {
            boolean again = calls == 0 ? r.nextInt(10) > 0 : r.nextInt(120) == 0;
            if (again && calls + CALLS_OF_A_TEXT < CALLS) {
                giveText(r, x, m, seen, run);
            }
            if (r.nextInt(2000) == 0 && calls + CALLS_TO_FILL < CALLS) {
                fillTape(x, m, run);
            }
            int before = wrong;
            Call call = Call.random(r, m);
            calls++;
            asked++;
            long got = call.answer(x);
            long want = call.answer(m);
            note(seen, call.name, want);
            if (got != want) {
                wrong++;
                System.out.println("run " + run + ", call " + asked + ": " + call + " answered " + got + ", due is " + want
                    + "\n  text: " + m.lastText);
            }
            if (asked % 40 == 0 || calls + callsToCompare(m) + 1 > CALLS) {
                compareAll(run, x, m, call);
            }
            if (wrong > before) {
                return;
            }
        }
    }

    private static void fillTape(LadderStreet x, Model m, int run) {
        for (int i = 0; i <= 100; i++) {
            check(run, null, "feed", x.feed(i, i, i, i, i), m.feed(i, i, i, i, i));
        }
    }

    private static void note(Map<String, Map<String, Integer>> seen, String name, long answer) {
        Map<String, Integer> counts = seen.computeIfAbsent(name, k -> new TreeMap<>());
        counts.merge(Long.toString(answer), 1, Integer::sum);
        if (answer > 0) {
            counts.merge("n", 1, Integer::sum);
        }
    }

    private static int callsToCompare(Model m) {
        return 17 + 8 * m.people.size() + 6 * m.rungs;
    }

    /** All that can be seen, as far as there are calls left. */
    private static void compareAll(int run, LadderStreet x, Model m, Call last) {
        if (calls + callsToCompare(m) > CALLS) {
            calls = CALLS;
            return;
        }
        for (int what = 0; what <= 16; what++) {
            check(run, last, "count(" + what + ")", x.count(what), m.count(what));
        }
        for (int p = 0; p < m.people.size(); p++) {
            for (int what = 0; what < 8; what++) {
                check(run, last, "person(" + p + ", " + what + ")", x.person(p, what), m.person(p, what));
            }
        }
        for (int g = 0; g < m.rungs; g++) {
            for (int what = 0; what < 6; what++) {
                check(run, last, "rung(" + g + ", " + what + ")", x.rung(g, what), m.rung(g, what));
            }
        }
    }

    private static void check(int run, Call last, String call, int got, int want) {
        calls++;
        if (got != want) {
            wrong++;
            System.out.println("run " + run + ", behind " + last + ": " + call + " answered " + got + ", due is " + want);
        }
    }

    private static void giveText(Random r, LadderStreet x, Model m, Map<String, Map<String, Integer>> seen, int run) {
        if (m.tape.length() > 0) {
            check(run, null, "back", x.back(m.tape.length()), m.back(m.tape.length()));
        }
        String text = Texts.random(r);
        if (text.length() > 1990) {
            text = text.substring(0, 1990);
        }
        while (text.length() > m.tape.length()) {
            byte[] twenty = new byte[20];
            Arrays.fill(twenty, (byte) ' ');
            int had = m.tape.length();
            for (int i = 0; i < 20 && had + i < text.length(); i++) {
                twenty[i] = (byte) text.charAt(had + i);
            }
            int[] five = new int[5];
            for (int i = 0; i < 20; i++) {
                five[i / 4] = five[i / 4] << 8 | twenty[i] & 0xff;
            }
            check(run, null, "feed", x.feed(five[0], five[1], five[2], five[3], five[4]),
                m.feed(five[0], five[1], five[2], five[3], five[4]));
        }
        int over = m.tape.length() - text.length();
        if (over > 0 && r.nextInt(4) > 0) {
            check(run, null, "back", x.back(over), m.back(over));
        }
        int want = m.read();
        note(seen, "read", want);
        String about = "read of " + m.lastText;
        check(run, null, about, x.read(), want);
        check(run, null, "place behind " + about, x.place(), m.place());
    }

    /** One call, which both can be asked. */
    private static final class Call {
        private static final String[] NAMES = {"person", "rung", "can", "send", "send", "send", "mend", "mend", "bucket",
            "minutes", "minutes", "undo", "inTheWay", "errands", "past", "alone", "reach", "above", "driest", "parts",
            "least", "homes", "share", "enough", "news", "pairs", "kept", "waits", "crowd", "free", "meet", "mendFirst",
            "then", "year", "tell", "tell", "forget", "trod", "ask", "hold", "restore", "count", "feed", "back", "place",
            "kept", "ask"};
        String name;
        int[] a = new int[5];

        static Call random(Random r, Model m) {
            Call c = new Call();
            c.name = NAMES[r.nextInt(NAMES.length)];
            if ((c.name.equals("forget") || c.name.equals("undo") || c.name.equals("restore")) && r.nextInt(3) > 0) {
                c.name = "send";
            }
            for (int i = 0; i < 5; i++) {
                c.a[i] = c.argument(r, m, i);
                if (r.nextInt(60) == 0) {
                    int[] far = {-1, -2, Integer.MAX_VALUE, Integer.MIN_VALUE, 5, 12, 32, 33, 100, -3, 61, 99, 20, 21, 13};
                    c.a[i] = far[r.nextInt(far.length)];
                }
            }
            return c;
        }

        private int argument(Random r, Model m, int i) {
            int person = r.nextInt(Math.max(1, m.people.size()) + (r.nextInt(12) == 0 ? 1 : 0));
            int rung = r.nextInt(m.rungs) + (r.nextInt(20) == 0 ? 1 : 0);
            switch (name) {
                case "person": return i == 0 ? person : r.nextInt(9);
                case "rung": return i == 0 ? rung : r.nextInt(7);
                case "can": return i == 0 ? person : a[0] >= 0 && a[0] < m.people.size()
                    ? m.people.get(a[0]).rung - 1 + r.nextInt(3) : rung;
                case "send": case "alone": case "inTheWay": return i == 0 ? person : rung - (r.nextInt(15) == 0 ? 1 : 0);
                case "mend": case "tell": return rung;
                case "bucket": return r.nextInt(101);
                case "minutes": return r.nextInt(8) == 0 ? r.nextInt(62) : r.nextInt(4);
                case "past": return i % 2 == 0 ? person : rung;
                case "driest": return r.nextInt(3);
                case "parts": return i == 0 ? r.nextInt(11) : rung;
                case "least": return i == 0 ? r.nextInt(11) : r.nextInt(3);
                case "homes": return i == 0 ? r.nextInt(r.nextInt(2) == 0 ? 4 : 13) : person - r.nextInt(2);
                case "share": return i == 0 ? person : r.nextInt(101);
                case "news": return i == 0 ? person : r.nextInt(14);
                case "pairs": return r.nextInt(13);
                case "waits": case "crowd": return i == 0 ? r.nextInt(62) : r.nextInt(3);
                case "free": return r.nextInt(11);
                case "meet": return i < 2 ? person : r.nextInt(3);
                case "then": return i == 0 ? person : i == 1 ? r.nextInt(62) : r.nextInt(5);
                case "year": return i == 0 ? r.nextInt(62) : r.nextInt(22);
                case "trod": return i == 0 ? r.nextInt(m.told.size() + 2) : r.nextInt(3);
                case "ask": return r.nextInt(m.told.size() + 2);
                case "hold": case "restore": return r.nextInt(4);
                case "count": return r.nextInt(18);
                case "back": return r.nextInt(30);
                default: return i == 0 ? person : i == 1 ? rung : r.nextInt();
            }
        }

        long answer(LadderStreet x) {
            switch (name) {
                case "person": return x.person(a[0], a[1]);
                case "rung": return x.rung(a[0], a[1]);
                case "can": return x.can(a[0], a[1]);
                case "send": return x.send(a[0], a[1]) ? 1 : 0;
                case "mend": return x.mend(a[0]) ? 1 : 0;
                case "bucket": return x.bucket(a[0]);
                case "minutes": return x.minutes(a[0]);
                case "undo": return x.undo() ? 1 : 0;
                case "inTheWay": return x.inTheWay(a[0], a[1]);
                case "errands": return x.errands();
                case "past": return x.past(a[0], a[1], a[2], a[3]);
                case "alone": return x.alone(a[0], a[1]);
                case "reach": return x.reach(a[0]);
                case "above": return x.above(a[0]);
                case "driest": return x.driest(a[0]);
                case "parts": return x.parts(a[0], a[1]);
                case "least": return x.least(a[0], a[1]);
                case "homes": return x.homes(a[0], a[1]);
                case "share": return x.share(a[0], a[1]);
                case "enough": return x.enough();
                case "news": return x.news(a[0], a[1]);
                case "pairs": return x.pairs(a[0]);
                case "kept": return x.kept(a[0]);
                case "waits": return x.waits(a[0], a[1]);
                case "crowd": return x.crowd(a[0], a[1]);
                case "free": return x.free(a[0]);
                case "meet": return x.meet(a[0], a[1], a[2]);
                case "mendFirst": return x.mendFirst();
                case "then": return x.then(a[0], a[1], a[2]);
                case "year": return x.year(a[0], a[1]);
                case "tell": return x.tell(a[0], (a[4] & 1) == 0);
                case "forget": return x.forget();
                case "trod": return x.trod(a[0], a[1]);
                case "ask": return x.ask(a[0]);
                case "hold": return x.hold(a[0]) ? 1 : 0;
                case "restore": return x.restore(a[0]) ? 1 : 0;
                case "count": return x.count(a[0]);
                case "feed": return x.feed(a[0], a[1], a[2], a[3], a[4]);
                case "back": return x.back(a[0]);
                default: return x.place();
            }
        }

        long answer(Model x) {
            switch (name) {
                case "person": return x.person(a[0], a[1]);
                case "rung": return x.rung(a[0], a[1]);
                case "can": return x.can(a[0], a[1]);
                case "send": return x.send(a[0], a[1]) ? 1 : 0;
                case "mend": return x.mend(a[0]) ? 1 : 0;
                case "bucket": return x.bucket(a[0]);
                case "minutes": return x.minutes(a[0]);
                case "undo": return x.undo() ? 1 : 0;
                case "inTheWay": return x.inTheWay(a[0], a[1]);
                case "errands": return x.errands();
                case "past": return x.past(a[0], a[1], a[2], a[3]);
                case "alone": return x.alone(a[0], a[1]);
                case "reach": return x.reach(a[0]);
                case "above": return x.above(a[0]);
                case "driest": return x.driest(a[0]);
                case "parts": return x.parts(a[0], a[1]);
                case "least": return x.least(a[0], a[1]);
                case "homes": return x.homes(a[0], a[1]);
                case "share": return x.share(a[0], a[1]);
                case "enough": return x.enough();
                case "news": return x.news(a[0], a[1]);
                case "pairs": return x.pairs(a[0]);
                case "kept": return x.kept(a[0]);
                case "waits": return x.waits(a[0], a[1]);
                case "crowd": return x.crowd(a[0], a[1]);
                case "free": return x.free(a[0]);
                case "meet": return x.meet(a[0], a[1], a[2]);
                case "mendFirst": return x.mendFirst();
                case "then": return x.then(a[0], a[1], a[2]);
                case "year": return x.year(a[0], a[1]);
                case "tell": return x.tell(a[0], (a[4] & 1) == 0);
                case "forget": return x.forget();
                case "trod": return x.trod(a[0], a[1]);
                case "ask": return x.ask(a[0]);
                case "hold": return x.hold(a[0]) ? 1 : 0;
                case "restore": return x.restore(a[0]) ? 1 : 0;
                case "count": return x.count(a[0]);
                case "feed": return x.feed(a[0], a[1], a[2], a[3], a[4]);
                case "back": return x.back(a[0]);
                default: return x.place();
            }
        }

        @Override
        public String toString() {
            return name + Arrays.toString(a);
        }
    }

    /** Texts: most of them without a FAULT, some with one that was put in by hand. */
    private static final class Texts {
        private static final String[] VARS = {"rung", "deep", "minute", "width", "temper", "thirst", "waited", "here",
            "water"};
        private static final String[] BITS = {"shaft", "person", "room", "quarrel", "cup", "breaks", "seed", "if", "then",
            "else", "rung", "deep", ";", "=", "+", "-", "*", "/", "<", "(", ")", ".", "12345", "0", "7", "abc", "abcdefghi",
            "A", "\u00e9", "\t", "\n", "12", "\u0000", ">"};

        static String random(Random r) {
            String text = plain(r);
            int kind = r.nextInt(12);
            if (kind == 0) {
                return broken(r, text);
            }
            if (kind == 1) {
                return edge(r, text);
            }
            return text;
        }

        private static String plain(Random r) {
            StringBuilder b = new StringBuilder();
            int rungs = r.nextInt(3) == 0 ? 1 + r.nextInt(12) : 4 + r.nextInt(5);
            b.append("shaft ").append(rungs).append(";");
            int people = r.nextInt(6);
            String[] names = {"ann", "bob", "cid", "doroteas", "e"};
            for (int p = 0; p < people; p++) {
                b.append(blank(r)).append("person ").append(names[p]).append(' ').append(r.nextInt(rungs)).append(' ')
                    .append(1 + r.nextInt(r.nextBoolean() ? 4 : 9)).append(' ').append(r.nextInt(10)).append(' ')
                    .append(r.nextInt(10)).append(';');
            }
            if (r.nextInt(3) > 0) {
                b.append("room = ").append(r.nextInt(3) == 0 ? roomy(r) : law(r)).append(';');
            }
            if (r.nextInt(4) > 0) {
                b.append("quarrel=").append(law(r)).append(';');
            }
            if (r.nextInt(4) > 0) {
                b.append("cup =").append(law(r)).append(" ;");
            }
            if (r.nextInt(3) == 0) {
                b.append("breaks = ").append(r.nextBoolean() ? "here * " + r.nextInt(9) : law(r)).append(';');
            }
            if (r.nextBoolean()) {
                b.append("seed ").append(r.nextInt(10000)).append(';');
            }
            return b.toString();
        }

        private static String roomy(Random r) {
            String[] rooms = {"6 + rung", "9 + minute / 3", "12 - minute / 4", "if rung < 3 then 5 else 12",
                "if minute < 5 then 0 else 20", "minute", "if rung < minute then 14 else 3", "deep + 2", "15 - rung",
                "if minute / 2 * 2 < minute then 4 else 18", "10", "13", "11 - rung"};
            return rooms[r.nextInt(rooms.length)];
        }

        private static String blank(Random r) {
            return new String[] {"", " ", "\n", "\t", "\r\n  "}[r.nextInt(5)];
        }

        private static String law(Random r) {
            StringBuilder b = new StringBuilder();
            int ifs = r.nextInt(3) == 0 ? r.nextInt(5) : r.nextInt(2);
            for (int i = 0; i < ifs; i++) {
                b.append("if ").append(sum(r, 0)).append(" < ").append(sum(r, 0)).append(" then ").append(sum(r, 0))
                    .append(" else ");
            }
            return b.append(sum(r, 0)).toString();
        }

        private static String sum(Random r, int open) {
            StringBuilder b = new StringBuilder(product(r, open));
            while (r.nextInt(3) == 0) {
                b.append(r.nextBoolean() ? " + " : "-").append(product(r, open));
            }
            return b.toString();
        }

        private static String product(Random r, int open) {
            StringBuilder b = new StringBuilder(unit(r, open));
            while (r.nextInt(4) == 0) {
                b.append(r.nextBoolean() ? "*" : " / ").append(unit(r, open));
            }
            return b.toString();
        }

        private static String unit(Random r, int open) {
            int kind = r.nextInt(8);
            if (kind == 0 && open < 6) {
                return "(" + sum(r, open + 1) + ")";
            }
            if (kind < 4) {
                return Integer.toString(r.nextInt(3) == 0 ? r.nextInt(10000) : r.nextInt(12));
            }
            return VARS[r.nextInt(VARS.length)];
        }

        private static String broken(Random r, String text) {
            StringBuilder b = new StringBuilder(text);
            int times = 1 + r.nextInt(2);
            for (int i = 0; i < times && b.length() > 0; i++) {
                int at = r.nextInt(b.length());
                switch (r.nextInt(4)) {
                    case 0: b.setLength(at); break;
                    case 1: b.deleteCharAt(at); break;
                    case 2: b.insert(at, " " + BITS[r.nextInt(BITS.length)] + " "); break;
                    default: b.insert(at, BITS[r.nextInt(BITS.length)]); break;
                }
            }
            return b.toString();
        }

        private static String edge(Random r, String text) {
            switch (r.nextInt(8)) {
                case 0: return text + "person ann 0 1 1 1;";
                case 1: return text + "person zoe " + r.nextInt(14) + " " + r.nextInt(12) + " " + r.nextInt(12) + " 3;";
                case 2: return text + "shaft " + r.nextInt(15) + ";";
                case 3: return "person a 1 1 1 1;person b 1 1 1 1;person c 1 1 1 1;person d 1 1 1 1;person e 1 1 1 1;"
                    + (r.nextBoolean() ? "person f 1 1 1 1;" : "person") + text;
                case 4: return "room = " + "if 1<2 then 3 else ".repeat(4 + r.nextInt(2)) + "4;" + text;
                case 5: return "cup = " + "(".repeat(6 + r.nextInt(2)) + "3" + ")".repeat(6 + r.nextInt(2)) + ";" + text;
                case 6: return "room = " + "1+".repeat(196 + r.nextInt(6)) + "1;" + (r.nextBoolean() ? text : "");
                default: return "seed 1;".repeat(130 + r.nextInt(4)) + text + (r.nextBoolean() ? "!" : "");
            }
        }
    }

    /** A second writing of the document, in plain words and with no thought of room. */
    private static final class Model {
        static final class Person implements Cloneable {
            String name;
            int rung, width, temper, thirst, goal = -2, waited, took, fell;

            Person copy() {
                try {
                    return (Person) clone();
                } catch (CloneNotSupportedException e) {
                    throw new IllegalStateException(e);
                }
            }
        }

        static final class Token {
            String kind;
            String sign;
            int place;
        }

        private static final Set<String> WORDS = new HashSet<>(Arrays.asList("shaft", "person", "room", "quarrel", "cup",
            "breaks", "seed", "if", "then", "else", "rung", "deep", "minute", "width", "temper", "thirst", "waited",
            "here", "water"));
        private static final List<String> VARS = Arrays.asList("rung", "deep", "minute", "width", "temper", "thirst",
            "waited", "here", "water");

        StringBuilder tape = new StringBuilder();
        String lastText = "";
        int place = -1;
        int rungs = 8;
        int seed = 0;
        List<Person> people = new ArrayList<>();
        boolean[] broken = new boolean[12];
        int[] broke = new int[12];
        int minute = 0;
        int quarrels = 0;
        Map<String, List<String>> laws = new HashMap<>();
        List<int[]> told = new ArrayList<>();
        Deque<Model> past = new ArrayDeque<>();
        Model[] slots = new Model[3];

        /** All that goes on, and what the text told, without tape, TOLD, past and SLOTS. */
        Model state() {
            Model m = new Model();
            m.rungs = rungs;
            m.seed = seed;
            m.laws = laws;
            for (Person p : people) {
                m.people.add(p.copy());
            }
            m.broken = broken.clone();
            m.broke = broke.clone();
            m.minute = minute;
            m.quarrels = quarrels;
            return m;
        }

        void setState(Model m) {
            Model c = m.state();
            rungs = c.rungs;
            seed = c.seed;
            laws = c.laws;
            people = c.people;
            broken = c.broken;
            broke = c.broke;
            minute = c.minute;
            quarrels = c.quarrels;
        }

        int feed(int... five) {
            if (tape.length() + 20 > 2000) {
                return -1;
            }
            for (int four : five) {
                for (int i = 3; i >= 0; i--) {
                    tape.append((char) (four >> 8 * i & 255));
                }
            }
            return tape.length();
        }

        int back(int n) {
            if (n < 0 || n > tape.length()) {
                return -1;
            }
            tape.setLength(tape.length() - n);
            return tape.length();
        }

        int place() {
            return place;
        }

        // A text.

        private static List<Token> tokens(String text) {
            List<Token> all = new ArrayList<>();
            int i = 0;
            while (i < text.length()) {
                char c = text.charAt(i);
                if (c == 9 || c == 10 || c == 13 || c == 32) {
                    i++;
                    continue;
                }
                int j = i + 1;
                Token t = new Token();
                t.place = i;
                if (c >= 'a' && c <= 'z') {
                    while (j < text.length() && text.charAt(j) >= 'a' && text.charAt(j) <= 'z') {
                        j++;
                    }
                    t.sign = text.substring(i, j);
                    t.kind = t.sign.length() > 8 ? "none" : VARS.contains(t.sign) ? "VAR" : WORDS.contains(t.sign) ? t.sign
                        : "NAME";
                } else if (c >= '0' && c <= '9') {
                    while (j < text.length() && text.charAt(j) >= '0' && text.charAt(j) <= '9') {
                        j++;
                    }
                    t.sign = text.substring(i, j);
                    t.kind = t.sign.length() > 4 ? "none" : "INT";
                } else {
                    t.sign = text.substring(i, j);
                    t.kind = ";=+-*/<()".indexOf(c) >= 0 ? t.sign : "none";
                }
                all.add(t);
                i = j;
            }
            Token end = new Token();
            end.kind = "end";
            end.sign = "";
            end.place = text.length();
            all.add(end);
            return all;
        }

        private static String[] rule(String symbol, String next) {
            boolean startsUnit = next.equals("INT") || next.equals("VAR") || next.equals("(");
            switch (symbol) {
                case "TEXT": return next.equals("end") ? new String[] {} : new String[] {"TELL", "TEXT"};
                case "TELL":
                    switch (next) {
                        case "shaft": return new String[] {"shaft", "INT", ";"};
                        case "seed": return new String[] {"seed", "INT", ";"};
                        case "person": return new String[] {"person", "NAME", "INT", "INT", "INT", "INT", ";"};
                        case "room": case "quarrel": case "cup": case "breaks": return new String[] {next, "LAW", ";"};
                        default: return null;
                    }
                case "LAW": return new String[] {"=", "IFS", "E"};
                case "IFS": return next.equals("if") ? new String[] {"if", "E", "<", "E", "then", "E", "else", "IFS"}
                    : startsUnit ? new String[] {} : null;
                case "E": return startsUnit ? new String[] {"PART", "EREST"} : null;
                case "EREST": return next.equals("+") || next.equals("-") ? new String[] {next, "PART", "EREST"}
                    : new String[] {};
                case "PART": return startsUnit ? new String[] {"UNIT", "PREST"} : null;
                case "PREST": return next.equals("*") || next.equals("/") ? new String[] {next, "UNIT", "PREST"}
                    : new String[] {};
                case "UNIT": return next.equals("(") ? new String[] {"(", "E", ")"} : startsUnit ? new String[] {next} : null;
                default: return null;
            }
        }

        /** SYNTAX and ROOM: place * 10 + number, or -1. */
        private static int firstFault(List<Token> tokens) {
            Deque<String> stack = new ArrayDeque<>();
            stack.push("TEXT");
            int people = 0;
            int ifs = 0;
            int open = 0;
            for (int i = 0; i < tokens.size(); i++) {
                Token t = tokens.get(i);
                while (!stack.isEmpty() && Character.isUpperCase(stack.peek().charAt(0))
                        && !List.of("INT", "VAR", "NAME").contains(stack.peek())) {
                    String[] by = rule(stack.pop(), t.kind);
                    if (by == null) {
                        return t.place * 10 + 1;
                    }
                    for (int k = by.length - 1; k >= 0; k--) {
                        stack.push(by[k]);
                    }
                }
                if (t.kind.equals("end")) {
                    return stack.isEmpty() ? -1 : t.place * 10 + 1;
                }
                if (stack.isEmpty() || !stack.pop().equals(t.kind)) {
                    return t.place * 10 + 1;
                }
                people += t.kind.equals("person") ? 1 : 0;
                ifs = t.kind.equals("=") ? 0 : ifs + (t.kind.equals("if") ? 1 : 0);
                open += t.kind.equals("(") ? 1 : t.kind.equals(")") ? -1 : 0;
                if (i >= 400 || people > 5 && t.kind.equals("person") || ifs > 4 && t.kind.equals("if") || open > 6) {
                    return t.place * 10 + 2;
                }
            }
            return -1;
        }

        int read() {
            String text = tape.toString();
            lastText = text;
            tape.setLength(0);
            List<Token> tokens = tokens(text);
            int fault = firstFault(tokens);
            Model draft = new Model();
            draft.laws.put("room", List.of("9"));
            draft.laws.put("quarrel", List.of("0"));
            draft.laws.put("cup", List.of("thirst"));
            draft.laws.put("breaks", List.of("0"));
            int worse = -1;
            if (fault < 0) {
                worse = draft.tell(tokens, text.length());
            }
            if (fault < 0) {
                fault = worse;
            }
            place = fault < 0 ? -1 : fault / 10;
            if (fault >= 0) {
                return fault % 10;
            }
            setState(draft);
            told.clear();
            past.clear();
            slots = new Model[3];
            return 0;
        }

        private int tell(List<Token> tokens, int length) {
            int fault = -1;
            for (int i = 0; i < tokens.size() - 1;) {
                List<Token> tell = new ArrayList<>();
                while (!tokens.get(i).kind.equals(";")) {
                    tell.add(tokens.get(i++));
                }
                i++;
                String first = tell.get(0).kind;
                if (tell.get(1).kind.equals("=")) {
                    List<String> law = new ArrayList<>();
                    for (Token t : tell.subList(2, tell.size())) {
                        law.add(t.sign);
                    }
                    laws.put(first, law);
                } else if (first.equals("person")) {
                    Person p = new Person();
                    p.name = tell.get(1).sign;
                    for (Person other : people) {
                        if (other.name.equals(p.name) && fault < 0) {
                            fault = tell.get(1).place * 10 + 3;
                        }
                    }
                    int[] least = {0, 1, 0, 0};
                    int[] most = {11, 9, 9, 9};
                    int[] told = new int[4];
                    for (int k = 0; k < 4; k++) {
                        told[k] = Integer.parseInt(tell.get(2 + k).sign);
                        if ((told[k] < least[k] || told[k] > most[k]) && fault < 0) {
                            fault = tell.get(2 + k).place * 10 + 5;
                        }
                    }
                    p.rung = told[0];
                    p.width = told[1];
                    p.temper = told[2];
                    p.thirst = told[3];
                    people.add(p);
                } else {
                    int number = Integer.parseInt(tell.get(1).sign);
                    if (first.equals("seed")) {
                        seed = number;
                    } else {
                        rungs = number;
                        if ((number < 1 || number > 12) && fault < 0) {
                            fault = tell.get(1).place * 10 + 5;
                        }
                    }
                }
            }
            for (Person p : people) {
                if (p.rung >= rungs && fault < 0) {
                    fault = length * 10 + 6;
                }
            }
            return fault;
        }

        // LAWS.

        private List<String> reading;
        private int reader;
        private Map<String, Integer> vars;
        private boolean byZero;

        private int law(String name, int least, int most, Map<String, Integer> told) {
            reading = laws.getOrDefault(name, List.of(name.equals("room") ? "9" : name.equals("cup") ? "thirst" : "0"));
            reader = 0;
            byZero = false;
            vars = new HashMap<>(told);
            vars.put("minute", minute);
            vars.put("deep", rungs);
            int worth = choice();
            return Math.max(least, Math.min(most, byZero ? 0 : worth));
        }

        private String next() {
            return reader < reading.size() ? reading.get(reader) : "";
        }

        private int choice() {
            while (next().equals("if")) {
                reader++;
                int left = sum();
                reader++;
                int right = sum();
                reader++;
                if (byZero) {
                    return 0;
                }
                int then = sum();
                if (left < right) {
                    return then;
                }
                byZero = false;
                reader++;
            }
            return sum();
        }

        private int sum() {
            int worth = product();
            while (next().equals("+") || next().equals("-")) {
                boolean plus = reading.get(reader++).equals("+");
                int other = product();
                worth = plus ? worth + other : worth - other;
            }
            return worth;
        }

        private int product() {
            int worth = unit();
            while (next().equals("*") || next().equals("/")) {
                boolean times = reading.get(reader++).equals("*");
                int other = unit();
                if (!times && other == 0) {
                    byZero = true;
                    other = 1;
                }
                worth = times ? worth * other : (int) ((long) worth / other);
            }
            return worth;
        }

        private int unit() {
            String t = reading.get(reader++);
            if (t.equals("(")) {
                int worth = sum();
                reader++;
                return worth;
            }
            return Character.isDigit(t.charAt(0)) ? Integer.parseInt(t) : vars.getOrDefault(t, 0);
        }

        private int room(int rung) {
            return law("room", 0, 99, Map.of("rung", rung));
        }

        private int breaks(int rung) {
            return broken[rung] ? 0 : law("breaks", 0, 100, Map.of("rung", rung, "here", widths(rung)));
        }

        private int cup(Person p, int water) {
            return law("cup", 0, water, Map.of("rung", p.rung, "width", p.width, "temper", p.temper, "thirst", p.thirst,
                "water", water));
        }

        private int quarrel(Person p, int to) {
            return law("quarrel", 0, 99, Map.of("rung", p.rung, "width", p.width, "temper", p.temper, "thirst", p.thirst,
                "waited", p.waited, "here", widths(to)));
        }

        private static int lot(int n, int seed, int which) {
            int h = seed;
            for (int it : new int[] {131, which}) {
                h = (h ^ it) * 1103515245 + 12345;
                h ^= h >>> 15;
            }
            return Integer.remainderUnsigned(h >>> 1, n);
        }

        // What is, and what is done.

        private int widths(int rung) {
            return people.stream().filter(p -> p.rung == rung).mapToInt(p -> p.width).sum();
        }

        private boolean isRung(int rung) {
            return rung >= 0 && rung < rungs;
        }

        private boolean isPerson(int person) {
            return person >= 0 && person < people.size();
        }

        private boolean canGo(Person p, int rung) {
            return isRung(rung) && !broken[rung] && widths(rung) + p.width <= room(rung);
        }

        private boolean enters(Person p, int rung) {
            int others = people.stream().filter(q -> q != p && q.rung == rung).mapToInt(q -> q.width).sum();
            return !broken[rung] && others + p.width <= room(rung);
        }

        private void pass(boolean breaking, int seedNow) {
            for (Person p : people) {
                if (p.goal == -2) {
                    continue;
                }
                int to = p.rung + Integer.signum(p.goal - p.rung);
                if (canGo(p, to)) {
                    p.rung = to;
                    p.waited = 0;
                } else {
                    quarrels = Math.min(99999, quarrels + quarrel(p, to));
                    p.waited++;
                }
                if (p.rung == p.goal) {
                    p.goal = -2;
                    p.waited = 0;
                }
            }
            if (breaking) {
                Set<Integer> now = new HashSet<>();
                for (int g = 0; g < rungs; g++) {
                    if (!broken[g] && lot(100, seedNow, 16 * minute + g) < breaks(g)) {
                        now.add(g);
                    }
                }
                for (int g : now) {
                    broken[g] = true;
                    broke[g]++;
                }
                for (Person p : people) {
                    if (now.contains(p.rung)) {
                        int to = p.rung;
                        while (to < rungs && broken[to]) {
                            to++;
                        }
                        if (to < rungs) {
                            p.rung = to;
                            p.fell++;
                        }
                        p.goal = -2;
                        p.waited = 0;
                    }
                }
            }
            minute++;
        }

        private void thing() {
            past.addLast(state());
            if (past.size() > 40) {
                past.removeFirst();
            }
        }

        int person(int person, int what) {
            if (!isPerson(person) || what < 0 || what > 7) {
                return -1;
            }
            Person p = people.get(person);
            return new int[] {p.rung, p.width, p.temper, p.thirst, p.goal, p.waited, p.took, p.fell}[what];
        }

        private int bits(java.util.function.Predicate<Person> which) {
            int bits = 0;
            for (int i = 0; i < people.size(); i++) {
                bits += which.test(people.get(i)) ? 1 << i : 0;
            }
            return bits;
        }

        private int rungBits(java.util.function.IntPredicate which) {
            int bits = 0;
            for (int g = 0; g < rungs; g++) {
                bits += which.test(g) ? 1 << g : 0;
            }
            return bits;
        }

        int rung(int rung, int what) {
            if (!isRung(rung) || what < 0 || what > 5) {
                return -1;
            }
            return new int[] {room(rung), widths(rung), bits(p -> p.rung == rung), broken[rung] ? 0 : 1, breaks(rung),
                broke[rung]}[what];
        }

        int can(int person, int rung) {
            if (!isPerson(person) || !isRung(rung)) {
                return -1;
            }
            Person p = people.get(person);
            return p.rung != rung - 1 && p.rung != rung + 1 ? -1 : canGo(p, rung) ? 1 : 0;
        }

        boolean send(int person, int rung) {
            if (!isPerson(person) || !isRung(rung) && rung != -1) {
                return false;
            }
            Person p = people.get(person);
            int goal = rung == -1 || rung == p.rung ? -2 : rung;
            if (p.goal == goal) {
                return false;
            }
            thing();
            p.goal = goal;
            p.waited = goal == -2 ? 0 : p.waited;
            return true;
        }

        boolean mend(int rung) {
            if (!isRung(rung) || !broken[rung]) {
                return false;
            }
            thing();
            broken[rung] = false;
            return true;
        }

        int bucket(int w) {
            if (w < 0 || w > 99) {
                return -1;
            }
            thing();
            return let(w);
        }

        private int let(int w) {
            int water = w;
            for (int g = 0; g < rungs; g++) {
                for (Person p : people) {
                    if (p.rung == g) {
                        int cup = cup(p, water);
                        water -= cup;
                        p.took += cup;
                    }
                }
            }
            return water;
        }

        int minutes(int n) {
            if (n < 0 || n > 60) {
                return -1;
            }
            if (n > 0) {
                thing();
            }
            for (int i = 0; i < n; i++) {
                pass(true, seed);
            }
            return minute;
        }

        boolean undo() {
            if (past.isEmpty()) {
                return false;
            }
            setState(past.removeLast());
            return true;
        }

        boolean hold(int slot) {
            if (slot < 0 || slot > 2) {
                return false;
            }
            slots[slot] = state();
            return true;
        }

        boolean restore(int slot) {
            if (slot < 0 || slot > 2 || slots[slot] == null) {
                return false;
            }
            setState(slots[slot]);
            past.clear();
            return true;
        }

        int count(int what) {
            switch (what) {
                case 0: return rungs;
                case 1: return people.size();
                case 2: return minute;
                case 3: return quarrels;
                case 4: return rungBits(g -> broken[g]);
                case 5: return bits(p -> p.goal != -2);
                case 6: return people.stream().mapToInt(p -> p.took).sum();
                case 7: return people.stream().mapToInt(p -> p.fell).sum();
                case 8: return tape.length();
                case 9: return past.size();
                case 10: return told.size();
                case 11: return (int) Arrays.stream(slots).filter(s -> s != null).count();
                case 12: return people.stream().mapToInt(p -> p.width).sum();
                case 13: return rungBits(g -> widths(g) > room(g));
                case 14: return people.stream().mapToInt(p -> p.waited).sum();
                case 15: return rungBits(g -> people.stream().noneMatch(p -> p.rung == g));
                case 16: return people.stream().mapToInt(p -> p.thirst).sum();
                default: return -1;
            }
        }

        // What would be.

        int inTheWay(int person, int rung) {
            if (!isPerson(person) || !isRung(rung)) {
                return -1;
            }
            Person p = people.get(person);
            int bits = 0;
            for (int g = p.rung; g != rung;) {
                g += rung > g ? 1 : -1;
                bits |= enters(p, g) ? 0 : 1 << g;
            }
            return bits;
        }

        private int overIn() {
            Model m = state();
            for (int n = 0; n <= 200; n++) {
                if (m.count(5) == 0) {
                    return n;
                }
                m.pass(false, 0);
            }
            return -2;
        }

        int errands() {
            return overIn();
        }

        int mendFirst() {
            int best = -2;
            int soonest = overIn() == -2 ? Integer.MAX_VALUE : overIn();
            for (int g = 0; g < rungs; g++) {
                if (broken[g]) {
                    Model m = state();
                    m.broken[g] = false;
                    int over = m.overIn();
                    if (over >= 0 && over < soonest) {
                        soonest = over;
                        best = g;
                    }
                }
            }
            return best;
        }

        int past(int person, int rung, int other, int otherRung) {
            if (!isPerson(person) || !isPerson(other) || person == other || !isRung(rung) || !isRung(otherRung)) {
                return -1;
            }
            Model m = state();
            Person p = m.people.get(person);
            Person q = m.people.get(other);
            Set<List<Integer>> here = new HashSet<>();
            here.add(List.of(p.rung, q.rung));
            for (int n = 0; n <= 40; n++) {
                if (here.contains(List.of(rung, otherRung))) {
                    return n;
                }
                Set<List<Integer>> next = new HashSet<>();
                for (List<Integer> pair : here) {
                    for (int up = -1; up <= 1; up++) {
                        p.rung = pair.get(0);
                        q.rung = pair.get(1);
                        if (up != 0 && !m.canGo(p, p.rung + up)) {
                            continue;
                        }
                        p.rung += up;
                        next.add(List.of(p.rung, q.rung));
                        for (int otherUp = -1; otherUp <= 1; otherUp += 2) {
                            if (m.canGo(q, pair.get(1) + otherUp)) {
                                next.add(List.of(p.rung, pair.get(1) + otherUp));
                            }
                        }
                    }
                }
                here = next;
            }
            return -2;
        }

        private int[] soonest(int person) {
            int[] when = new int[rungs];
            Arrays.fill(when, -2);
            Model m = state();
            Person p = m.people.get(person);
            when[p.rung] = 0;
            Deque<Integer> come = new ArrayDeque<>(List.of(p.rung));
            while (!come.isEmpty()) {
                int g = come.removeFirst();
                p.rung = g;
                for (int up = -1; up <= 1; up += 2) {
                    if (isRung(g + up) && when[g + up] < 0 && m.canGo(p, g + up)) {
                        when[g + up] = when[g] + 1;
                        come.addLast(g + up);
                    }
                }
            }
            return when;
        }

        int alone(int person, int rung) {
            return !isPerson(person) || !isRung(rung) ? -1 : soonest(person)[rung];
        }

        int reach(int person) {
            if (!isPerson(person)) {
                return -1;
            }
            int[] when = soonest(person);
            return rungBits(g -> when[g] >= 0);
        }

        int above(int person) {
            return isPerson(person) ? bits(p -> p.rung < people.get(person).rung) : -1;
        }

        int driest(int what) {
            if (what != 0 && what != 1) {
                return -1;
            }
            int least = people.stream().mapToInt(p -> p.took).min().orElse(-2);
            return what == 1 || people.isEmpty() ? least : Integer.numberOfTrailingZeros(bits(p -> p.took == least));
        }

        int parts(int width, int rung) {
            if (width < 1 || width > 9 || !isRung(rung)) {
                return -1;
            }
            int pairs = 0;
            for (Person p : people) {
                for (Person q : people) {
                    if (p.rung < rung && q.rung > rung
                        && (broken[rung] || widths(rung) + width + Math.max(p.width, q.width) > room(rung))) {
                        pairs++;
                    }
                }
            }
            return pairs;
        }

        int least(int width, int what) {
            if (width < 1 || width > 9 || what < 0 || what > 1) {
                return -1;
            }
            for (int fewest = 0; fewest <= 25; fewest++) {
                for (int g = 0; g < rungs; g++) {
                    if (!broken[g] && widths(g) + width <= room(g) && parts(width, g) == fewest) {
                        return what == 0 ? g : fewest;
                    }
                }
            }
            return -2;
        }

        int homes(int d, int person) {
            if (d < 0 || d > 11 || !isPerson(person) && person != -1) {
                return -1;
            }
            List<int[]> all = new ArrayList<>();
            all.add(new int[0]);
            for (Person p : people) {
                List<int[]> more = new ArrayList<>();
                for (int[] some : all) {
                    for (int g = Math.max(0, p.rung - d); g <= Math.min(rungs - 1, p.rung + d); g++) {
                        int load = p.width;
                        for (int i = 0; i < some.length; i++) {
                            load += some[i] == g ? people.get(i).width : 0;
                        }
                        if (!broken[g] && load <= room(g)) {
                            int[] longer = Arrays.copyOf(some, some.length + 1);
                            longer[some.length] = g;
                            more.add(longer);
                        }
                    }
                }
                all = more;
            }
            if (all.isEmpty()) {
                return person == -1 ? 0 : -2;
            }
            return person == -1 ? 1 : all.get(0)[person];
        }

        int share(int person, int w) {
            if (!isPerson(person) || w < 0 || w > 99) {
                return -1;
            }
            Model m = state();
            m.let(w);
            return m.people.get(person).took - people.get(person).took;
        }

        int enough() {
            int w = 99;
            List<Integer> all = shares(99);
            for (int less = 98; less >= 0; less--) {
                if (shares(less).equals(all)) {
                    w = less;
                }
            }
            return w;
        }

        private List<Integer> shares(int w) {
            List<Integer> all = new ArrayList<>();
            for (int p = 0; p < people.size(); p++) {
                all.add(share(p, w));
            }
            return all;
        }

        int news(int person, int n) {
            if (!isPerson(person) || n < 0 || n > 12) {
                return -1;
            }
            Set<Person> known = new HashSet<>(List.of(people.get(person)));
            for (int i = 0; i < n; i++) {
                Set<Person> ahead = new HashSet<>(known);
                for (Person p : people) {
                    if (ahead.stream().anyMatch(k -> Math.abs(k.rung - p.rung) <= 2)) {
                        known.add(p);
                    }
                }
            }
            return bits(known::contains);
        }

        int pairs(int d) {
            if (d < 0 || d > 11) {
                return -1;
            }
            int most = 0;
            int n = people.size();
            for (int a = 0; a < n; a++) {
                for (int b = a + 1; b < n; b++) {
                    if (Math.abs(people.get(a).rung - people.get(b).rung) <= d) {
                        most = Math.max(most, 1);
                        for (int c = 0; c < n; c++) {
                            for (int e = c + 1; e < n; e++) {
                                if (c != a && c != b && e != a && e != b
                                    && Math.abs(people.get(c).rung - people.get(e).rung) <= d) {
                                    most = 2;
                                }
                            }
                        }
                    }
                }
            }
            return most;
        }

        int kept(int person) {
            if (!isPerson(person)) {
                return -1;
            }
            int bits = 0;
            for (int i = 0; i < people.size(); i++) {
                Person p = people.get(i);
                if (i == person || p.goal == -2) {
                    continue;
                }
                int to = p.rung + Integer.signum(p.goal - p.rung);
                Model without = state();
                without.people.get(person).rung = -99;
                if (!canGo(p, to) && without.canGo(without.people.get(i), to)) {
                    bits |= 1 << i;
                }
            }
            return bits;
        }

        private Model in(int n, int seedNow) {
            Model m = state();
            for (int i = 0; i < n; i++) {
                m.pass(true, seedNow);
            }
            return m;
        }

        int waits(int n, int what) {
            if (n < 0 || n > 60 || what < 0 || what > 1) {
                return -1;
            }
            Model m = in(n, seed);
            int most = m.people.stream().mapToInt(p -> p.waited).max().orElse(-2);
            return what == 1 || people.isEmpty() ? most : Integer.numberOfTrailingZeros(m.bits(p -> p.waited == most));
        }

        int crowd(int n, int what) {
            if (n < 0 || n > 60 || what < 0 || what > 1) {
                return -1;
            }
            Model m = in(n, seed);
            int most = 0;
            for (int g = 0; g < rungs; g++) {
                most = Math.max(most, m.widths(g));
            }
            int full = most;
            return what == 1 ? most : Integer.numberOfTrailingZeros(rungBits(g -> m.widths(g) == full));
        }

        int free(int width) {
            if (width < 1 || width > 9) {
                return -1;
            }
            return rungBits(g -> !broken[g] && widths(g) + width <= room(g));
        }

        int meet(int person, int other, int what) {
            if (!isPerson(person) || !isPerson(other) || person == other || what < 0 || what > 1) {
                return -1;
            }
            Person p = people.get(person);
            Person q = people.get(other);
            for (int far = 0; far < 12; far++) {
                for (int g = 0; g < rungs; g++) {
                    int rung = g;
                    int others = people.stream().filter(z -> z != p && z != q && z.rung == rung).mapToInt(z -> z.width).sum();
                    if (Math.max(Math.abs(p.rung - g), Math.abs(q.rung - g)) == far
                        && others + p.width + q.width <= room(g)) {
                        return what == 0 ? g : far;
                    }
                }
            }
            return -2;
        }

        int then(int person, int n, int what) {
            if (n < 0 || n > 60 || what < 0 || what > 3 || what < 2 && !isPerson(person)) {
                return -1;
            }
            Model m = in(n, seed);
            return what == 0 ? m.people.get(person).rung : what == 1 ? m.people.get(person).waited
                : what == 2 ? m.quarrels - quarrels : Integer.bitCount(m.count(4));
        }

        int year(int n, int s) {
            if (n < 0 || n > 60 || s < 1 || s > 20) {
                return -1;
            }
            int over = 0;
            for (int i = 0; i < s; i++) {
                over += in(n, seed + i).count(5) == 0 ? 1 : 0;
            }
            return over;
        }

        // What is told.

        int tell(int rung, boolean above) {
            if (!isRung(rung) || told.size() >= 20) {
                return -1;
            }
            told.add(new int[] {rung, above ? 1 : 0});
            return told.size() - 1;
        }

        int forget() {
            int had = told.size();
            told.clear();
            return had;
        }

        private Map<Integer, Integer> path(Person p) {
            Map<Integer, Integer> path = new HashMap<>();
            if (p.goal != -2) {
                for (int g = p.rung; g != p.goal;) {
                    g += p.goal > p.rung ? 1 : -1;
                    path.put(g, p.goal > p.rung ? 1 : 0);
                }
            }
            return path;
        }

        private int suspects(int k) {
            return bits(p -> told.subList(0, k).stream().allMatch(t -> Integer.valueOf(t[1]).equals(path(p).get(t[0]))));
        }

        int trod(int k, int what) {
            if (k < 0 || k > told.size() || what < 0 || what > 1) {
                return -1;
            }
            return what == 0 ? Integer.bitCount(suspects(k)) : suspects(k);
        }

        int ask(int k) {
            if (k < 0 || k > told.size()) {
                return -1;
            }
            int left = suspects(k);
            if (left == 0) {
                return -2;
            }
            int best = -1;
            int fewest = 99;
            for (int g = 0; g < rungs; g++) {
                int rung = g;
                int yes = Integer.bitCount(left & bits(p -> path(p).containsKey(rung)));
                int no = Integer.bitCount(left & ~bits(p -> path(p).containsKey(rung)));
                if (Math.max(yes, no) < fewest) {
                    fewest = Math.max(yes, no);
                    best = g;
                }
            }
            return best;
        }
    }
}
