/** The sentences of ../shared/DOC.md, "Terms" II and promises 6 to 13, that name a boundary case, in their order. */
public final class EdgesOfMinutes extends Check {
    public static void main(String[] args) {
        firstThatHolds();
        wrapping();
        dividing();
        varsNotTold();
        heldRoom();
        heldQuarrel();
        heldCup();
        heldBreaks();
        lots();
        canGo();
        onesOwnRung();
        personByPerson();
        waiting();
        quarrelsAtMost();
        atTheGoal();
        breaking();
        breakingByHowAllStands();
        falling();
        nowhereToFall();
        nextMinute();
        sending();
        mending();
        bucketFromTheTop();
        bucketEdges();
        minutesEdges();
        undoing();
        undoingAtMost();
        fiveHundredAndTwelveCalls();
        finish();
    }

    private static int room(String law) {
        return told("shaft 3;room = " + law + ";").rung(0, 0);
    }

    private static void firstThatHolds() {
        about("LAWS: the E of the first if that holds (one less than the other), else the last one");
        due("less", room("if 2 < 3 then 11 else 22"), 11);
        due("alike is not less", room("if 3 < 3 then 11 else 22"), 22);
        due("more", room("if 4 < 3 then 11 else 22"), 22);
        due("below 0", room("if 0 - 1 < 0 then 11 else 22"), 11);
        due("two hold", room("if 1 < 2 then 11 else if 1 < 2 then 22 else 33"), 11);
        due("the second alone", room("if 2 < 2 then 11 else if 1 < 2 then 22 else 33"), 22);
        due("none", room("if 2 < 2 then 11 else if 2 < 2 then 22 else 33"), 33);
        String three = "if 2 < 2 then 11 else if 2 < 2 then 22 else if 2 < 2 then 33 else ";
        due("the fourth", room(three + "if 1 < 2 then 44 else 55"), 44);
        due("none of four", room(three + "if 2 < 2 then 44 else 55"), 55);
        due("one less than the other: of the greatest and the least int",
            room("if 4096 * 4096 * 128 < 4096 * 4096 * 128 - 1 then 11 else 22"), 11);
    }

    private static void wrapping() {
        about("ints of 32 bits that wrap");
        due("the greatest", room("if 4096 * 4096 * 127 + (4096 * 4096 - 1) < 0 then 11 else 22"), 22);
        due("and 1 more", room("if 4096 * 4096 * 127 + (4096 * 4096 - 1) + 1 < 0 then 11 else 22"), 11);
        due("the least, and 1 less", room("if 4096 * 4096 * 128 - 1 < 0 then 11 else 22"), 22);
        due("2^32", room("4096 * 4096 * 256 + 7"), 7);
        due("9999^4 is 1,089,432,001 then", room("9999 * 9999 * 9999 * 9999 / 9999 / 9999"), 10);
        due("65537^2 is 131,073 then", room("(8192 * 8 + 1) * (8192 * 8 + 1) - (8192 * 16)"), 1);
        due("held behind it", room("4096 * 4096 * 128"), 0);
        about("/ rounded towards 0");
        due("7 / 2", room("7 / 2"), 3);
        due("-7 / 2", room("50 + (0 - 7) / 2"), 47);
        due("7 / -2", room("50 + 7 / (0 - 2)"), 47);
        due("-7 / -2", room("50 + (0 - 7) / (0 - 2)"), 53);
        due("-1 / 2", room("50 + (0 - 1) / 2"), 50);
        due("0 / 7", room("50 + 0 / 7"), 50);
        due("the least by -1 is the least", room("if 4096 * 4096 * 128 / (0 - 1) < 0 - 9999 then 11 else 22"), 11);
        due("the least by 1", room("if 4096 * 4096 * 128 / 1 < 0 - 9999 then 11 else 22"), 11);
    }

    private static void dividing() {
        about("a LAW in which something that is looked at is divided by 0 is 0");
        due("alone", room("7 / 0"), 0);
        due("0 / 0", room("7 + 0 / 0"), 0);
        due("by what comes to 0", room("7 + 7 / (3 - 3)"), 0);
        due("by a VAR not told", room("7 + 7 / water"), 0);
        due("ahead of the rest", room("7 / 0 + 50"), 0);
        due("times 0", room("50 + 0 * (7 / 0)"), 0);
        due("in the left side", room("if 7 / 0 < 9 then 11 else 22"), 0);
        due("in the right side", room("if 9 < 7 / 0 then 11 else 22"), 0);
        due("in the right side, though the left is enough", room("if 0 - 9999 < 7 / 0 then 11 else 22"), 0);
        due("in the second if, looked at", room("if 2 < 2 then 11 else if 7 / 0 < 1 then 22 else 33"), 0);
        due("in the E that counts", room("if 1 < 2 then 7 / 0 else 22"), 0);
        due("in the last E", room("if 2 < 2 then 11 else 7 / 0"), 0);
        due("not looked at: the E of an if that doesn't hold", room("if 2 < 2 then 7 / 0 else 22"), 22);
        due("not looked at: behind the if that holds", room("if 1 < 2 then 11 else if 7 / 0 < 1 then 22 else 33"), 11);
        due("not looked at: the last E", room("if 1 < 2 then 11 else 7 / 0"), 11);
        LadderStreet x = told("shaft 3;person a 0 5 0 9;person b 1 5 0 9;quarrel = 9 / waited;cup = water / (water - 7);"
            + "breaks = 100 / (minute - 2);");
        x.send(0, 1);
        x.minutes(1);
        due("QUARREL", x.count(3), 0);
        x.minutes(1);
        due("QUARREL", x.count(3), 9);
        due("BREAKS", x.rung(0, 4), 0);
        due("CUP", x.bucket(7), 7);
        due("CUP", x.bucket(8), 0);
    }

    private static void varsNotTold() {
        about("a VAR not told for a LAW is 0 in it; minute, deep for all");
        String town = "shaft 3;person a 1 4 5 6;person b 0 7 8 9;";
        String[] vars = {"rung", "deep", "minute", "width", "temper", "thirst", "waited", "here", "water"};
        int[] room = {1, 3, 2, 0, 0, 0, 0, 0, 0};
        int[] quarrel = {1, 3, 2, 4, 5, 6, 2, 7, 0};
        int[] cup = {1, 3, 3, 4, 5, 6, 0, 0, 30};
        int[] breaks = {1, 3, 3, 0, 0, 0, 0, 4, 0};
        for (int i = 0; i < vars.length; i++) {
            LadderStreet x = told(town + "room = if 1 < minute then " + vars[i] + " else 9;quarrel = " + vars[i]
                + ";cup = if width < 7 then " + vars[i] + " else 0;breaks = if minute < 3 then 0 else " + vars[i] + ";");
            x.send(0, 0);
            x.minutes(2);
            due("ROOM is " + vars[i], x.rung(1, 0), room[i]);
            int before = x.count(3);
            x.minutes(1);
            due("QUARREL is " + vars[i], x.count(3) - before, quarrel[i]);
            due("CUP is " + vars[i], x.bucket(30), 30 - cup[i]);
            due("BREAKS is " + vars[i], x.rung(1, 4), breaks[i]);
        }
    }

    private static void heldRoom() {
        about("ROOM of a RUNG, held to 0 .. 99");
        due("-1", room("0 - 1"), 0);
        due("0", room("0"), 0);
        due("1", room("1"), 1);
        due("98", room("98"), 98);
        due("99", room("99"), 99);
        due("100", room("100"), 99);
        due("9999", room("9999"), 99);
        LadderStreet x = told("shaft 2;person a 0 1 1 1;room = 0 - 9;");
        due("nobody fits in 0", x.can(0, 1), 0);
        due("nobody is more than 0", x.count(13), 1);
        due("the broken have ROOM, too", brokenRoom(), 5);
    }

    private static int brokenRoom() {
        LadderStreet x = told("shaft 2;room = 5;breaks = 100;");
        x.minutes(1);
        return x.rung(1, 0);
    }

    private static void heldQuarrel() {
        about("QUARREL, held to 0 .. 99");
        String[] laws = {"0 - 1", "0", "1", "98", "99", "100", "9999", "4096 * 4096 * 128", "4096 * 4096 * 127"};
        int[] worth = {0, 0, 1, 98, 99, 99, 99, 0, 99};
        for (int i = 0; i < laws.length; i++) {
            LadderStreet x = told("shaft 2;person a 0 9 0 0;person b 1 9 0 0;quarrel = " + laws[i] + ";");
            x.send(0, 1);
            x.minutes(1);
            due(laws[i], x.count(3), worth[i]);
        }
        LadderStreet x = told("shaft 2;person a 0 1 0 0;person b 1 9 0 0;quarrel = 9;");
        x.send(1, 0);
        x.minutes(1);
        due("nobody is kept from going", x.count(3), 9);
        x.undo();
        x.send(1, 1);
        x.minutes(9);
        due("nobody is going", x.count(3), 0);
    }

    private static void heldCup() {
        about("CUP, held to 0 .. what there is");
        String[] laws = {"0 - 1", "0", "1", "water - 1", "water", "water + 1", "9999", "4096 * 4096 * 128"};
        int[] left = {8, 8, 7, 1, 0, 0, 0, 8};
        for (int i = 0; i < laws.length; i++) {
            LadderStreet x = told("person a 0 9 0 0;cup = " + laws[i] + ";");
            due(laws[i], x.bucket(8), left[i]);
            due(laws[i] + " taken", x.person(0, 6), 8 - left[i]);
            due(laws[i] + " of none", x.bucket(0), 0);
            due(laws[i] + " taken", x.person(0, 6), 8 - left[i]);
        }
    }

    private static void heldBreaks() {
        about("BREAKS of a whole RUNG, held to 0 .. 100");
        String[] laws = {"0 - 1", "0", "1", "99", "100", "101", "9999", "4096 * 4096 * 128"};
        int[] worth = {0, 0, 1, 99, 100, 100, 100, 0};
        for (int i = 0; i < laws.length; i++) {
            due(laws[i], told("breaks = " + laws[i] + ";").rung(0, 4), worth[i]);
        }
        for (int seed = 0; seed < 20; seed++) {
            LadderStreet x = told("shaft 12;breaks = 0;seed " + seed * 521 + ";");
            x.minutes(60);
            due("0 never", x.count(4), 0);
            LadderStreet y = told("shaft 12;breaks = 100;seed " + seed * 521 + ";");
            y.minutes(1);
            due("100 always", y.count(4), 4095);
        }
        LadderStreet z = told("shaft 2;breaks = if rung < 1 then 100 else 50 - 9;seed 0;");
        z.minutes(1);
        due("0: broken", z.rung(0, 4), 0);
        due("of a whole one", z.rung(1, 3) == 1 ? z.rung(1, 4) : 41, 41);
    }

    /** LOT by the document, in longs. */
    private static int lot(int n, long seed, int which) {
        long h = seed;
        for (long it : new long[] {131, which}) {
            h = ((h ^ it) * 1103515245L + 12345L) % 4294967296L;
            h = h ^ h / 32768;
        }
        return (int) (h / 2 % n);
    }

    private static void lots() {
        about("each whole RUNG BREAKS if LOT 100 of the SEED and 16 * the minute and its number is less than BREAKS");
        for (int seed : new int[] {0, 1, 130, 131, 132, 9998, 9999}) {
            for (int minute : new int[] {0, 1, 7, 15, 16, 59}) {
                for (int rung : new int[] {0, 1, 11}) {
                    int lot = lot(100, seed, 16 * minute + rung);
                    due("LOT " + lot + " of " + seed + ", " + minute + ", " + rung, breaksOnce(seed, minute, rung, lot), 0);
                    due("1 more", breaksOnce(seed, minute, rung, lot + 1), 1 << rung);
                }
            }
        }
    }

    private static int breaksOnce(int seed, int minute, int rung, int breaks) {
        LadderStreet x = told("shaft 12;seed " + seed + ";breaks = if rung < " + rung + " then 0 else if " + rung
            + " < rung then 0 else if minute < " + minute + " then 0 else " + breaks + ";");
        x.minutes(minute);
        due("nothing broke ahead", x.count(4), 0);
        x.minutes(1);
        return x.count(4);
    }

    private static void canGo() {
        about("A PERSON CAN go: WIDTHS of all, with theirs, are no more than its ROOM");
        for (int room = 0; room < 14; room++) {
            LadderStreet x = told("shaft 4;person a 1 4 0 0;person b 2 5 0 0;person c 2 2 0 0;room = " + room + ";");
            due("4 to nobody, ROOM " + room, x.can(0, 0), room >= 4 ? 1 : 0);
            due("4 to 5 and 2, ROOM " + room, x.can(0, 2), room >= 11 ? 1 : 0);
            due("5 to 4, ROOM " + room, x.can(1, 1), room >= 9 ? 1 : 0);
            due("2 to nobody, ROOM " + room, x.can(2, 3), room >= 2 ? 1 : 0);
        }
        about("CAN: that is whole");
        LadderStreet x = told("shaft 3;person a 1 4 0 0;breaks = if rung < 1 then 100 else 0;");
        due("whole", x.can(0, 0), 1);
        x.minutes(1);
        due("broken", x.can(0, 0), 0);
        due("the other one", x.can(0, 2), 1);
        x.mend(0);
        due("mended", x.can(0, 0), 1);
        about("can: NONE: not next to it, no such ones");
        LadderStreet y = told("shaft 4;person a 0 1 0 0;person b 3 1 0 0;person c 1 1 0 0;");
        due("below", y.can(0, 1), 1);
        due("own", y.can(0, 0), -1);
        due("two below", y.can(0, 2), -1);
        due("three below", y.can(0, 3), -1);
        due("above the top", y.can(0, -1), -1);
        due("below the last", y.can(1, 4), -1);
        due("above the last", y.can(1, 2), 1);
        due("above", y.can(2, 0), 1);
        due("below", y.can(2, 2), 1);
        due("two below", y.can(2, 3), -1);
        due("no PERSON", y.can(3, 1), -1);
        due("no PERSON", y.can(-1, 1), -1);
        due("the greatest int", y.can(0, Integer.MAX_VALUE), -1);
        due("the least int", y.can(0, Integer.MIN_VALUE), -1);
        due("who is on a broken RUNG can go", fromBroken().can(0, 0), 1);
    }

    private static LadderStreet fromBroken() {
        LadderStreet x = told("shaft 2;person a 1 4 0 0;breaks = if rung < 1 then 0 else 100;");
        x.minutes(1);
        return x;
    }

    private static void onesOwnRung() {
        about("who is on a RUNG without ROOM stays there, and can go from it");
        LadderStreet x = told("shaft 3;person a 0 9 0 0;person b 0 9 0 0;person c 0 9 0 0;room = if rung < 1 then 0 else 9;");
        due("more than ROOM", x.count(13), 1);
        x.minutes(2);
        due("they stay", x.rung(0, 2), 7);
        x.send(1, 2);
        x.minutes(1);
        due("one went", x.rung(1, 2), 2);
        due("two are left", x.rung(0, 2), 5);
        LadderStreet y = told("shaft 3;person a 1 4 0 0;person b 2 9 0 0;room = if 3 < rung then 9 else 3;");
        due("two RUNGS with too little ROOM", y.count(13), 6);
    }

    private static void personByPerson() {
        about("PERSON by PERSON: as all is then");
        LadderStreet x = told("shaft 5;person a 2 9 0 0;person b 1 9 0 0;person c 0 9 0 0;quarrel = 1;");
        x.send(0, 4);
        x.send(1, 4);
        x.send(2, 4);
        x.minutes(1);
        due("each into what the one ahead left: a", x.person(0, 0), 3);
        due("b", x.person(1, 0), 2);
        due("c", x.person(2, 0), 1);
        due("no QUARREL", x.count(3), 0);
        LadderStreet y = told("shaft 5;person c 0 9 0 0;person b 1 9 0 0;person a 2 9 0 0;quarrel = 1;");
        y.send(0, 4);
        y.send(1, 4);
        y.send(2, 4);
        y.minutes(1);
        due("the other way round c waits", y.person(0, 0), 0);
        due("b waits", y.person(1, 0), 1);
        due("a goes", y.person(2, 0), 3);
        due("QUARRELS", y.count(3), 2);
        LadderStreet z = told("shaft 3;person a 0 5 0 0;person b 2 5 0 0;room = 9;");
        z.send(0, 1);
        z.send(1, 1);
        z.minutes(1);
        due("the first one has the RUNG", z.rung(1, 2), 1);
        due("the second one waits", z.person(1, 5), 1);
        about("goes one RUNG towards it");
        LadderStreet w = told("shaft 12;person a 0 9 0 0;person b 11 9 0 0;room = 18;");
        w.send(0, 11);
        w.send(1, 0);
        for (int minute = 1; minute <= 11; minute++) {
            w.minutes(1);
            due("down", w.person(0, 0), minute);
            due("up", w.person(1, 0), 11 - minute);
            due("goal", w.person(0, 4), minute < 11 ? 11 : -2);
        }
    }

    private static void waiting() {
        about("has waited 0; else waited is 1 more");
        LadderStreet x = told("shaft 3;person a 0 4 0 0;room = if minute < 2 then 3 else if minute < 3 then 4 else if "
            + "minute < 5 then 3 else 4;quarrel = 10 * waited + 1;");
        x.send(0, 2);
        int[] waited = {1, 2, 0, 1, 2, 0};
        int[] quarrels = {1, 12, 12, 13, 24, 24};
        for (int i = 0; i < waited.length; i++) {
            x.minutes(1);
            due("waited in " + (i + 1), x.person(0, 5), waited[i]);
            due("QUARRELS in " + (i + 1), x.count(3), quarrels[i]);
        }
        due("where", x.person(0, 0), 2);
        due("all have waited", x.count(14), 0);
        about("QUARREL: here: WIDTHS of all on the RUNG to which they would go");
        LadderStreet y = told("shaft 4;person a 1 9 0 0;person b 2 3 0 0;person c 2 4 0 0;person d 0 2 0 0;quarrel = here;");
        y.send(0, 3);
        y.minutes(1);
        due("below", y.count(3), 7);
        y.send(0, 0);
        y.minutes(1);
        due("above", y.count(3), 9);
        LadderStreet z = told("shaft 4;person a 1 9 0 0;quarrel = here + 5;breaks = if rung < 1 then 100 else 0;");
        z.minutes(1);
        z.send(0, 0);
        z.minutes(1);
        due("nobody on a broken RUNG", z.count(3), 5);
    }

    private static void quarrelsAtMost() {
        about("QUARRELS: 99,999 at most");
        for (int last = 8; last <= 11; last++) {
            LadderStreet x = told("shaft 2;person a 0 9 0 0;person b 1 9 0 0;quarrel = if minute < 1010 then 99 else if "
                + "minute < 1011 then " + last + " else if minute < 1012 then 0 else 1;");
            x.send(0, 1);
            for (int i = 0; i < 16; i++) {
                x.minutes(60);
            }
            x.minutes(50);
            due("1010 MINUTES", x.count(3), 99990);
            due("a MINUTE more, then()", x.then(0, 1, 2), Math.min(9, last));
            x.minutes(1);
            due(last + " more", x.count(3), Math.min(99999, 99990 + last));
            x.minutes(60);
            due("99,999", x.count(3), 99999);
            due("no more, then()", x.then(0, 9, 2), 0);
            due("but still waiting", x.person(0, 5), 1071);
            due("undone", x.undo(), true);
            due("QUARRELS", x.count(3), Math.min(99999, 99990 + last));
        }
    }

    private static void atTheGoal() {
        about("Who is at their goal has none any more, and has waited 0");
        LadderStreet x = told("shaft 4;person a 1 4 0 0;person b 2 4 0 0;room = if minute < 2 then 4 else 8;");
        x.send(0, 3);
        x.minutes(2);
        due("waited", x.person(0, 5), 2);
        x.minutes(1);
        due("on the way: goal", x.person(0, 4), 3);
        due("on the way: waited", x.person(0, 5), 0);
        x.minutes(1);
        due("there: goal", x.person(0, 4), -2);
        due("there: waited", x.person(0, 5), 0);
        x.minutes(3);
        due("stays", x.person(0, 0), 3);
        due("PEOPLE who have a goal", x.count(5), 0);
        LadderStreet y = told("shaft 4;person a 1 4 0 0;person b 2 4 0 0;room = if minute < 2 then 4 else 8;");
        y.send(0, 2);
        y.minutes(3);
        due("there behind waiting: goal", y.person(0, 4), -2);
        due("there behind waiting: waited", y.person(0, 5), 0);
    }

    private static void breaking() {
        about("each whole RUNG BREAKS: one that is broken does not again");
        LadderStreet x = told("shaft 3;breaks = if rung < 2 then 100 else 0;");
        x.minutes(9);
        due("broken", x.count(4), 3);
        due("0 broke", x.rung(0, 5), 1);
        due("2 never", x.rung(2, 5), 0);
        x.mend(0);
        x.minutes(1);
        due("mended, and broke again", x.rung(0, 5), 2);
        due("1 was not mended", x.rung(1, 5), 1);
        about("RUNGS break behind the going of all");
        LadderStreet y = told("shaft 4;person a 0 4 0 0;breaks = if rung < 1 then 100 else 0;");
        y.send(0, 3);
        y.minutes(1);
        due("gone in time", y.person(0, 0), 1);
        due("did not fall", y.person(0, 7), 0);
        due("goes on", y.person(0, 4), 3);
        LadderStreet z = told("shaft 4;person a 0 4 0 0;breaks = if rung < 1 then 0 else if rung < 2 then 100 else 0;");
        z.send(0, 1);
        z.minutes(1);
        due("gone into it", z.person(0, 0), 2);
        due("fell", z.person(0, 7), 1);
    }

    private static void breakingByHowAllStands() {
        about("BREAKS: all by how all stands then");
        LadderStreet x = told("shaft 4;person a 0 3 0 0;person b 1 3 0 0;breaks = if here < 1 then 0 else if here < 4 then 100 "
            + "else 0;");
        due("BREAKS now", x.rung(1, 4), 100);
        x.minutes(1);
        due("both break: nobody fell yet", x.count(4), 3);
        due("both fell to the next whole one", x.rung(2, 2), 3);
        due("WIDTHS", x.rung(2, 1), 6);
        due("BREAKS now", x.rung(2, 4), 0);
        LadderStreet y = told("shaft 4;person a 2 3 0 0;person b 3 3 0 0;breaks = here * 50;");
        y.minutes(1);
        due("2 and 3, not 0 and 1", y.count(4), 12);
    }

    private static void falling() {
        about("all on RUNGS that broke in this minute fall to the next whole RUNG below theirs, with no goal, waited 0");
        // In minute 0 the RUNGS 1, 3 and 4 break, in minute 1 RUNG 2.
        LadderStreet x = told("shaft 6;person a 1 3 0 0;person b 1 4 0 0;person c 5 9 0 0;room = 9;quarrel = 3;"
            + "breaks = if rung < 1 then 0 else if 4 < rung then 0 else 100 * ((rung - 2) * (rung - 2) + minute);");
        x.send(1, 0);
        x.send(0, 2);
        due("BREAKS of 1", x.rung(1, 4), 100);
        due("BREAKS of 2", x.rung(2, 4), 0);
        due("BREAKS of 3", x.rung(3, 4), 100);
        x.minutes(1);
        due("1, 3 and 4 broke", x.count(4), 2 + 8 + 16);
        due("a went to 2 in time", x.person(0, 0), 2);
        due("b went to 0 in time", x.person(1, 0), 0);
        x.minutes(1);
        due("2 broke", x.count(4), 2 + 4 + 8 + 16);
        due("a fell past 3 and 4, ROOM or not", x.person(0, 0), 5);
        due("more than ROOM", x.count(13), 32);
        due("fell once", x.person(0, 7), 1);
        due("c did not fall", x.person(2, 7), 0);
        due("falls", x.count(7), 1);
        LadderStreet y = told("shaft 4;person a 0 3 0 0;person b 1 9 0 0;person c 0 3 0 0;quarrel = 4;"
            + "breaks = if minute < 2 then 0 else if rung < 1 then 100 else 0;");
        y.send(0, 3);
        y.send(2, -1);
        y.minutes(2);
        due("a waited", y.person(0, 5), 2);
        y.minutes(1);
        due("a fell", y.person(0, 0), 1);
        due("c fell, too", y.person(2, 0), 1);
        due("no goal", y.person(0, 4), -2);
        due("waited 0", y.person(0, 5), 0);
        due("QUARRELS stay", y.count(3), 12);
        due("WIDTHS", y.rung(1, 1), 15);
        due("falls", y.count(7), 2);
        LadderStreet z = told("shaft 12;person a 0 3 0 0;person b 10 9 0 0;breaks = if rung < 11 then 100 else 0;");
        z.minutes(1);
        due("all the way down", z.person(0, 0), 11);
        due("a fall is one, however far", z.person(0, 7), 1);
        due("b", z.person(1, 0), 11);
        LadderStreet w = told("shaft 4;person a 0 3 0 0;breaks = if rung < minute + 1 then 100 else 0;");
        for (int minute = 1; minute <= 6; minute++) {
            w.minutes(1);
            due("falls each time, but from the last RUNG", w.person(0, 7), Math.min(3, minute));
            due("where", w.person(0, 0), Math.min(3, minute));
        }
    }

    private static void nowhereToFall() {
        about("if there is none, they stay, and did not fall");
        LadderStreet x = told("shaft 3;person a 2 3 0 0;person b 1 3 0 0;person c 0 3 0 0;breaks = rung * 100;");
        x.minutes(1);
        due("the last RUNG", x.person(0, 0), 2);
        due("the RUNG above it, broken, too", x.person(1, 0), 1);
        due("falls", x.count(7), 0);
        due("c stands on a whole one", x.person(2, 0), 0);
        x.minutes(9);
        due("still there", x.person(0, 0), 2);
        due("falls", x.count(7), 0);
        x.mend(2);
        due("who stays on a broken RUNG doesn't fall later", x.then(1, 0, 0), 1);
        x.mend(1);
        x.minutes(1);
        due("2 and 1 break again", x.count(4), 6);
        due("b stays", x.person(1, 0), 1);
        LadderStreet y = told("shaft 2;person a 0 3 0 0;person b 1 3 0 0;breaks = if minute < 1 then rung * 100 else "
            + "if minute < 2 then 0 else 100;");
        y.minutes(1);
        due("b stays on the broken one", y.person(1, 0), 1);
        y.mend(1);
        y.minutes(1);
        due("nothing breaks", y.count(4), 0);
        y.minutes(1);
        due("all break", y.count(4), 3);
        due("a stays: none is whole", y.person(0, 0), 0);
        due("falls", y.count(7), 0);
        LadderStreet z = told("shaft 1;person a 0 3 0 0;breaks = 100;");
        z.minutes(1);
        due("the only RUNG", z.person(0, 0), 0);
        due("did not fall", z.person(0, 7), 0);
    }

    private static void nextMinute() {
        about("It is the next minute");
        LadderStreet x = told("room = minute;");
        for (int minute = 1; minute < 9; minute++) {
            due("which it is", x.minutes(1), minute);
            due("count", x.count(2), minute);
            due("ROOM now", x.rung(0, 0), minute);
        }
    }

    private static void sending() {
        about("SENT to a goal: what was waited stays");
        LadderStreet x = told("shaft 4;person a 1 5 0 0;person b 2 5 0 0;person c 0 5 0 0;");
        x.send(0, 3);
        x.minutes(3);
        due("sent elsewhere", x.send(0, 2), true);
        due("waited", x.person(0, 5), 3);
        due("sent the other way", x.send(0, 0), true);
        due("waited", x.person(0, 5), 3);
        x.minutes(1);
        due("goes on from there", x.person(0, 5), 4);
        about("or has none (and has waited 0)");
        due("none", x.send(0, -1), true);
        due("goal", x.person(0, 4), -2);
        due("waited", x.person(0, 5), 0);
        due("it is so", x.send(0, -1), false);
        due("it is so", x.send(0, 1), false);
        x.send(0, 3);
        x.minutes(2);
        about("send: that where they are: none, too");
        due("where they are", x.send(0, 1), true);
        due("goal", x.person(0, 4), -2);
        due("waited", x.person(0, 5), 0);
        about("send: false, and nothing happens: it is so, no such ones");
        x.send(0, 3);
        x.minutes(1);
        String before = seen(x);
        due("it is so", x.send(0, 3), false);
        due("no RUNG", x.send(0, 4), false);
        due("no RUNG", x.send(0, -2), false);
        due("no RUNG", x.send(0, Integer.MAX_VALUE), false);
        due("no RUNG", x.send(0, Integer.MIN_VALUE), false);
        due("no PERSON", x.send(3, 0), false);
        due("no PERSON", x.send(-1, 0), false);
        due("no PERSON, no goal", x.send(3, -1), false);
        due("no PERSON, no goal", x.send(-1, -1), false);
        due("another one has no goal", x.send(1, -1), false);
        due("another one is there", x.send(1, 2), false);
        due("what is seen", seen(x), before);
        due("to the top", x.send(0, 0), true);
        due("to the last RUNG", x.send(2, 3), true);
        due("to a RUNG without ROOM, broken or not", fromBroken().send(0, 0), true);
    }

    private static void mending() {
        about("mend: false, and nothing happens: it is whole, no such RUNG");
        LadderStreet x = told("shaft 3;person a 0 1 1 1;breaks = if minute < 1 then 100 else 0;");
        String before = seen(x);
        for (int rung : new int[] {0, 2, 3, 12, 31, 32, 33, -1, -2, Integer.MAX_VALUE, Integer.MIN_VALUE}) {
            due("nothing is broken", x.mend(rung), false);
        }
        due("what is seen", seen(x), before);
        x.minutes(1);
        before = seen(x);
        for (int rung : new int[] {3, 12, 31, 32, 33, -1, -2, Integer.MAX_VALUE, Integer.MIN_VALUE}) {
            due("no RUNG", x.mend(rung), false);
        }
        due("what is seen", seen(x), before);
        about("a RUNG that is broken is MENDED");
        due("the top", x.mend(0), true);
        due("the last", x.mend(2), true);
        due("1 is left", x.count(4), 2);
        due("it is whole", x.mend(2), false);
        due("things done", x.count(9), 3);
        due("how often it broke stays", x.rung(2, 5), 1);
        x.mend(1);
        due("none is left", x.count(4), 0);
    }

    private static void bucketFromTheTop() {
        about("a BUCKET: RUNG by RUNG from the top, PERSON by PERSON on it, each takes what CUP tells");
        LadderStreet x = told("shaft 12;person a 11 1 0 1;person b 5 1 0 2;person c 0 1 0 3;person d 5 1 0 4;person e 11 1 0 5;"
            + "cup = water / 2;");
        due("left", x.bucket(64), 2);
        due("c first", x.person(2, 6), 32);
        due("b", x.person(1, 6), 16);
        due("d behind b", x.person(3, 6), 8);
        due("a on the last RUNG", x.person(0, 6), 4);
        due("e behind a", x.person(4, 6), 2);
        due("water taken so far", x.count(6), 62);
        due("left", x.bucket(64), 2);
        due("so far", x.person(2, 6), 64);
        LadderStreet y = told("shaft 2;person a 1 1 0 9;person b 0 1 0 9;breaks = 100;");
        y.minutes(1);
        due("it falls past broken RUNGS, too", y.bucket(20), 2);
    }

    private static void bucketEdges() {
        about("bucket: w (0 .. 99): what is left; NONE, and nothing happens: no such w");
        LadderStreet x = told("shaft 2;person a 1 1 0 9;person b 0 1 0 5;");
        String before = seen(x);
        for (int w : new int[] {-1, 100, 101, Integer.MAX_VALUE, Integer.MIN_VALUE}) {
            due("no such w", x.bucket(w), -1);
        }
        due("what is seen", seen(x), before);
        due("0", x.bucket(0), 0);
        due("a thing done", x.count(9), 1);
        due("99", x.bucket(99), 85);
        due("13", x.bucket(13), 0);
        due("a has what is left", x.person(0, 6), 17);
        due("4", x.bucket(4), 0);
        due("nothing is left for a", x.person(0, 6), 17);
        due("things done", x.count(9), 4);
        due("nobody is there", told("shaft 1;").bucket(99), 99);
    }

    private static void minutesEdges() {
        about("minutes: n (0 .. 60; 0 is no thing done); NONE, and nothing happens: no such n");
        LadderStreet x = told("shaft 2;person a 1 5 0 9;person b 0 5 0 5;quarrel = 1;");
        x.send(0, 0);
        String before = seen(x);
        for (int n : new int[] {-1, 61, 62, Integer.MAX_VALUE, Integer.MIN_VALUE}) {
            due("no such n", x.minutes(n), -1);
        }
        due("0", x.minutes(0), 0);
        due("what is seen", seen(x), before);
        due("60", x.minutes(60), 60);
        due("QUARRELS", x.count(3), 60);
        due("one thing done", x.count(9), 2);
        due("0", x.minutes(0), 60);
        due("no thing done", x.count(9), 2);
        due("1", x.minutes(1), 61);
        due("undone", x.undo(), true);
        due("which it is", x.minutes(0), 60);
    }

    private static void undoing() {
        about("undo: the last thing done (send, mend, bucket, minutes) is undone; false: there is none");
        String town = "shaft 3;person a 0 9 0 9;person b 1 9 0 5;quarrel = 1;breaks = if minute < 4 then 0 else 50;seed 3;";
        LadderStreet x = told(town);
        due("none", x.undo(), false);
        String[] states = new String[3];
        states[0] = seen(x);
        x.send(0, 2);
        states[1] = seen(x);
        x.bucket(30);
        states[2] = seen(x);
        x.minutes(3);
        undoTo(x, states);
        due("what is refused is no thing done", x.send(0, 9) || x.mend(0) || x.undo(), false);
        x.send(0, 2);
        x.undo();
        due("an undo is no thing done", x.undo(), false);
        LadderStreet y = told(town);
        y.send(0, 2);
        y.minutes(2);
        y.hold(1);
        y.restore(1);
        states[0] = seen(y);
        y.minutes(7);
        states[1] = seen(y);
        due("a RUNG broke", y.count(4) > 0, true);
        due("mended", y.mend(Integer.numberOfTrailingZeros(y.count(4))), true);
        states[2] = seen(y);
        y.send(1, y.person(1, 0) == 2 ? 0 : 2);
        undoTo(y, states);
    }

    /** Undoes three things, ahead of each of which all was as told. */
    private static void undoTo(LadderStreet x, String[] states) {
        for (int done = 2; done >= 0; done--) {
            due("things done", x.count(9), done + 1);
            due("undone", x.undo(), true);
            due("what is seen ahead of thing " + done, seen(x), states[done]);
        }
        due("none is left", x.undo(), false);
    }

    private static void undoingAtMost() {
        about("undo: the last 40 can be");
        LadderStreet x = told("shaft 3;person a 0 9 0 1;");
        for (int i = 1; i <= 39; i++) {
            x.bucket(1);
        }
        due("39", x.count(9), 39);
        x.bucket(1);
        due("40", x.count(9), 40);
        x.bucket(1);
        due("41 done: 40", x.count(9), 40);
        for (int i = 0; i < 60; i++) {
            x.bucket(1);
        }
        due("101 done", x.person(0, 6), 101);
        for (int i = 1; i <= 40; i++) {
            due("undone", x.undo(), true);
            due("took", x.person(0, 6), 101 - i);
            due("left to undo", x.count(9), 40 - i);
        }
        due("no more", x.undo(), false);
        due("took", x.person(0, 6), 61);
        x.minutes(2);
        due("a new one", x.count(9), 1);
        due("undone", x.undo(), true);
        due("minute", x.count(2), 0);
        due("no more", x.undo(), false);
    }

    private static void fiveHundredAndTwelveCalls() {
        about("An object is used for at most 512 calls");
        LadderStreet x = new LadderStreet();
        // "shaft 2;person a 0 9 9 9;person b 1 9 9 9;quarrel=99;" with blanks: three calls of feed, and read.
        x.feed(0x73686166, 0x7420323b, 0x70657273, 0x6f6e2061, 0x20302039);
        x.feed(0x20392039, 0x3b706572, 0x736f6e20, 0x62203120, 0x39203920);
        x.feed(0x393b7175, 0x61727265, 0x6c3d3939, 0x3b202020, 0x20202020);
        due("4: read", x.read(), 0);
        due("5: sent", x.send(0, 1), true);
        due("6: held", x.hold(2), true);
        for (int call = 7; call <= 506; call++) {
            due(call + ": minutes", x.minutes(60), 60 * (call - 6));
        }
        due("507: waited", x.person(0, 5), 30000);
        due("508: QUARRELS", x.count(3), 99999);
        due("509: that can be undone", x.count(9), 40);
        due("510: undone", x.undo(), true);
        due("511: restored", x.restore(2), true);
        due("512: waited", x.person(0, 5), 0);
    }
}
