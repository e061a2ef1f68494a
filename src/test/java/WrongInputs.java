import java.util.Arrays;

/** Each argument of each call at, below and above its bounds: what is no such one is refused, and nothing happens. */
public final class WrongInputs extends Check {
    private static final int[] PEOPLE = {0, 2};
    private static final int[] RUNGS = {0, 3};
    private static final int[] WIDTHS = {1, 9};
    private static final int[] WATER = {0, 99};
    private static final int[] MINUTES = {0, 60};
    private static final int[] TOLD = {0, 2};
    private static final int[] ONE_OR_OTHER = {0, 1};

    /** One call, with its arguments in a row. */
    private interface Call {
        int of(LadderStreet x, int[] a);
    }

    public static void main(String[] args) {
        whatIs();
        whatIsDone();
        ways();
        asAllStands();
        ahead();
        whatIsTold();
        nothingHappens();
        finish();
    }

    /** Three PEOPLE, of whom two have goals, one broken RUNG, two TOLD, three things that can be undone. */
    private static LadderStreet town() {
        LadderStreet x = told("shaft 4;person a 0 4 3 9;person b 1 5 2 1;person c 3 9 1 2;quarrel = 1;"
            + "breaks = if 0 < minute then 0 else if rung < 2 then 0 else if rung < 3 then 100 else 0;");
        x.minutes(1);
        x.send(0, 3);
        x.send(2, 0);
        x.tell(1, true);
        x.tell(2, true);
        return x;
    }

    /** Asks with the arguments told, but one of them at its bounds, just outside, and far outside. */
    private static void bounds(String name, Call call, int refusal, int[] told, int[]... bounds) {
        about(name);
        for (int i = 0; i < bounds.length; i++) {
            int[] a = told.clone();
            for (int inside : bounds[i]) {
                LadderStreet x = town();
                a[i] = inside;
                due(row(a) + " is refused", call.of(x, a) == refusal, false);
            }
            LadderStreet x = town();
            String before = seen(x);
            for (long outside : new long[] {bounds[i][0] - 1L, bounds[i][1] + 1L, Integer.MIN_VALUE, Integer.MAX_VALUE}) {
                a[i] = (int) outside;
                due(row(a), call.of(x, a), refusal);
            }
            due("what is seen behind it", seen(x), before);
        }
    }

    private static String row(int[] a) {
        return Arrays.toString(a);
    }

    private static int[] arguments(int... a) {
        return a;
    }

    private static int[] bound(int least, int most) {
        return new int[] {least, most};
    }

    private static void whatIs() {
        bounds("person", (x, a) -> x.person(a[0], a[1]), -1, arguments(0, 0), PEOPLE, bound(0, 7));
        bounds("rung", (x, a) -> x.rung(a[0], a[1]), -1, arguments(0, 0), RUNGS, bound(0, 5));
        bounds("can: a PERSON on 1 and a RUNG beside", (x, a) -> x.can(a[0], a[1]), -1, arguments(1, 0), bound(1, 1));
        bounds("count", (x, a) -> x.count(a[0]), -1, arguments(0), bound(0, 16));
    }

    private static void whatIsDone() {
        bounds("send", (x, a) -> x.send(a[0], a[1]) ? 1 : 0, 0, arguments(0, 2), PEOPLE);
        bounds("send: no RUNG, or one but 3, the goal", (x, a) -> x.send(0, a[0]) ? 1 : 0, 0, arguments(2), bound(-1, 2));
        bounds("mend: the one that is broken", (x, a) -> x.mend(a[0]) ? 1 : 0, 0, arguments(2), bound(2, 2));
        bounds("bucket", (x, a) -> x.bucket(a[0]), -1, arguments(0), WATER);
        bounds("minutes", (x, a) -> x.minutes(a[0]), -1, arguments(0), MINUTES);
        bounds("hold", (x, a) -> x.hold(a[0]) ? 1 : 0, 0, arguments(0), bound(0, 2));
        bounds("back of an empty tape", (x, a) -> x.back(a[0]), -1, arguments(0), bound(0, 0));
        bounds("restore", (x, a) -> x.hold(a[0]) && x.restore(a[0]) ? 1 : 0, 0, arguments(0), bound(0, 2));
    }

    private static void ways() {
        bounds("inTheWay", (x, a) -> x.inTheWay(a[0], a[1]), -1, arguments(0, 0), PEOPLE, RUNGS);
        bounds("past", (x, a) -> x.past(a[0], a[1], a[2], a[3]), -1, arguments(0, 0, 1, 0), PEOPLE, RUNGS, bound(1, 2), RUNGS);
        bounds("past, the other way", (x, a) -> x.past(a[2], a[3], a[0], a[1]), -1, arguments(0, 0, 1, 0), PEOPLE, RUNGS);
        bounds("alone", (x, a) -> x.alone(a[0], a[1]), -1, arguments(0, 0), PEOPLE, RUNGS);
        bounds("reach", (x, a) -> x.reach(a[0]), -1, arguments(0), PEOPLE);
        bounds("meet", (x, a) -> x.meet(a[0], a[1], a[2]), -1, arguments(0, 1, 0), bound(0, 2), bound(1, 2), ONE_OR_OTHER);
    }

    private static void asAllStands() {
        bounds("above", (x, a) -> x.above(a[0]), -1, arguments(0), PEOPLE);
        bounds("driest", (x, a) -> x.driest(a[0]), -1, arguments(0), ONE_OR_OTHER);
        bounds("parts", (x, a) -> x.parts(a[0], a[1]), -1, arguments(1, 0), WIDTHS, RUNGS);
        bounds("least", (x, a) -> x.least(a[0], a[1]), -1, arguments(1, 0), WIDTHS, ONE_OR_OTHER);
        bounds("homes", (x, a) -> x.homes(a[0], a[1]), -1, arguments(0, -1), bound(0, 11), bound(-1, 2));
        bounds("share", (x, a) -> x.share(a[0], a[1]), -1, arguments(0, 0), PEOPLE, WATER);
        bounds("news", (x, a) -> x.news(a[0], a[1]), -1, arguments(0, 0), PEOPLE, bound(0, 12));
        bounds("pairs", (x, a) -> x.pairs(a[0]), -1, arguments(0), bound(0, 11));
        bounds("kept", (x, a) -> x.kept(a[0]), -1, arguments(0), PEOPLE);
        bounds("free", (x, a) -> x.free(a[0]), -1, arguments(1), WIDTHS);
    }

    private static void ahead() {
        bounds("waits", (x, a) -> x.waits(a[0], a[1]), -1, arguments(0, 0), MINUTES, ONE_OR_OTHER);
        bounds("waits, how long", (x, a) -> x.waits(a[0], a[1]), -1, arguments(0, 1), MINUTES);
        bounds("crowd", (x, a) -> x.crowd(a[0], a[1]), -1, arguments(0, 0), MINUTES, ONE_OR_OTHER);
        bounds("crowd, how much", (x, a) -> x.crowd(a[0], a[1]), -1, arguments(0, 1), MINUTES);
        bounds("then", (x, a) -> x.then(a[0], a[1], a[2]), -1, arguments(0, 0, 0), PEOPLE, MINUTES, bound(0, 3));
        bounds("then, waited", (x, a) -> x.then(a[0], a[1], a[2]), -1, arguments(0, 0, 1), PEOPLE, MINUTES);
        bounds("then, QUARRELS", (x, a) -> x.then(-7, a[0], 2), -1, arguments(0), MINUTES);
        bounds("then, broken", (x, a) -> x.then(-7, a[0], 3), -1, arguments(0), MINUTES);
        bounds("year", (x, a) -> x.year(a[0], a[1]), -1, arguments(0, 1), MINUTES, bound(1, 20));
    }

    private static void whatIsTold() {
        bounds("tell", (x, a) -> x.tell(a[0], a[0] % 2 == 0), -1, arguments(0), RUNGS);
        bounds("trod", (x, a) -> x.trod(a[0], a[1]), -1, arguments(0, 0), TOLD, ONE_OR_OTHER);
        bounds("ask", (x, a) -> x.ask(a[0]), -1, arguments(0), TOLD);
    }

    /** All questions, one behind the other: nothing happens, and they answer alike when asked again. */
    private static void nothingHappens() {
        about("What would be: nothing happens");
        LadderStreet x = town();
        String before = seen(x);
        String first = answers(x);
        due("what is seen", seen(x), before);
        due("the same questions", answers(x), first);
        due("what is seen", seen(x), before);
        due("what can be undone", x.count(9), 3);
        x.undo();
        x.undo();
        x.undo();
        due("all is undone", x.count(2), 0);
    }

    private static String answers(LadderStreet x) {
        int[] all = {x.inTheWay(0, 3), x.errands(), x.past(0, 1, 1, 2), x.alone(0, 2), x.reach(1), x.above(2), x.driest(0),
            x.parts(3, 2), x.least(2, 0), x.homes(3, -1), x.share(0, 40), x.enough(), x.news(1, 3), x.pairs(2), x.kept(1),
            x.waits(60, 1), x.crowd(60, 1), x.free(4), x.meet(0, 1, 0), x.mendFirst(), x.then(0, 60, 2), x.year(60, 20),
            x.trod(1, 1), x.ask(2), x.can(0, 1)};
        return row(all);
    }
}
