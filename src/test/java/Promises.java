/** The promises of ../shared/DOC.md one by one, with answers worked out by hand. */
public final class Promises extends Check {
    public static void main(String[] args) {
        aNewObject();
        feedAndBack();
        readSyntax();
        readRoom();
        readMeaning();
        readAnew();
        personsAndRungs();
        lawsAreReckoned();
        lawsGetTheirVars();
        canGo();
        sending();
        mending();
        buckets();
        minutesGoBy();
        rungsBreak();
        undoing();
        waysAreInTheWay();
        errandsAreOver();
        pastEachOther();
        aloneAndReach();
        aboveAndDriest();
        partsAndLeast();
        homesForAll();
        sharesAndEnough();
        newsAndPairs();
        keptBack();
        aheadInTime();
        freeAndMeet();
        mendingFirst();
        yearsBySeeds();
        tellingAndForgetting();
        trodAndAsk();
        holdAndRestore();
        counting();
        finish();
    }

    private static void on(int number) {
        about("promise " + number);
    }

    private static void aNewObject() {
        on(1);
        LadderStreet x = new LadderStreet();
        due("NONE", LadderStreet.NONE, -1);
        due("RUNGS", x.count(0), 8);
        due("PEOPLE", x.count(1), 0);
        for (int what = 2; what <= 16; what++) {
            due("count(" + what + ")", x.count(what), what == 15 ? 255 : 0);
        }
        for (int rung = 0; rung < 8; rung++) {
            due("ROOM", x.rung(rung, 0), 9);
            due("whole", x.rung(rung, 3), 1);
            due("BREAKS", x.rung(rung, 4), 0);
        }
        due("place", x.place(), -1);
        due("undo", x.undo(), false);
        due("restore", x.restore(0), false);
    }

    private static void feedAndBack() {
        on(2);
        LadderStreet x = new LadderStreet();
        for (int i = 1; i <= 100; i++) {
            due("feed " + i, x.feed(0x20202020, 0x20202020, 0x20202020, 0x20202020, 0x20202020), 20 * i);
        }
        due("feed on a full tape", x.feed(0, 0, 0, 0, 0), -1);
        due("bytes", x.count(8), 2000);
        on(3);
        due("back(2001)", x.back(2001), -1);
        due("back(-1)", x.back(-1), -1);
        due("back(least int)", x.back(Integer.MIN_VALUE), -1);
        due("back(0)", x.back(0), 2000);
        due("back(1)", x.back(1), 1999);
        on(2);
        due("feed over 2000", x.feed(0, 0, 0, 0, 0), -1);
        due("back(18)", x.back(18), 1981);
        due("feed over 2000 by one", x.feed(0, 0, 0, 0, 0), -1);
        due("back(1)", x.back(1), 1980);
        due("feed to 2000", x.feed(0x20202020, 0x20202020, 0x20202020, 0x20202020, 0x20202020), 2000);
        on(4);
        due("read of blanks", x.read(), 0);
        on(3);
        due("back(1) of none", x.back(1), -1);
        due("back(0) of none", x.back(0), 0);
        on(2);
        // "shaft 3;" by its bytes, the highest of each int first; all 256 bytes are kept as they are.
        due("feed", x.feed(0x73686166, 0x7420333b, 0xff808020, 0x20202020, 0x20202020), 20);
        on(4);
        due("read", x.read(), 1);
        on(5);
        due("place of byte 255", x.place(), 8);
        on(2);
        due("feed", x.feed(0x73686166, 0x7420333b, 0x0a0d0920, 0x20202020, 0x20202020), 20);
        on(4);
        due("read", x.read(), 0);
        due("RUNGS", x.count(0), 3);
    }

    private static void readSyntax() {
        on(4);
        fault("", 0, -1);
        fault("   \t\r\n", 0, -1);
        fault(";", 1, 0);
        fault("  shaft", 1, 7);
        fault("shaft  ", 1, 7);
        fault("shaft 3", 1, 7);
        fault("shaft;", 1, 5);
        fault("shaft 3;;", 1, 8);
        fault("shaft three;", 1, 6);
        fault("shaft 00003;", 1, 6);
        fault("shaft 0003;", 0, -1);
        fault("shaft3;", 0, -1);
        fault("Shaft 3;", 1, 0);
        fault("shaftx 3;", 1, 0);
        fault("hello", 1, 0);
        fault("person ann 0 1 1 1", 1, 18);
        fault("person ann 0 1 1;", 1, 16);
        fault("person 7 0 1 1 1;", 1, 7);
        fault("person here 0 1 1 1;", 1, 7);
        fault("person then 0 1 1 1;", 1, 7);
        fault("person abcdefgh 0 1 1 1;", 0, -1);
        fault("person abcdefghi 0 1 1 1;", 1, 7);
        fault("person ann0 1 1 1;", 0, -1);
        fault("person ann 0 1 1 1 .", 1, 19);
        fault("room 3;", 1, 5);
        fault("room = ;", 1, 7);
        fault("room = 3 4;", 1, 9);
        fault("room = 3 +;", 1, 10);
        fault("room = (3;", 1, 9);
        fault("room = 3);", 1, 8);
        fault("room = -3;", 1, 7);
        fault("room = name;", 1, 7);
        fault("room = room;", 1, 7);
        fault("room = 3 < 4;", 1, 9);
        fault("room = if 3 then 4 else 5;", 1, 12);
        fault("room = if 3 < 4 then 5;", 1, 22);
        fault("room = if 3 < 4 then 5 else ;", 1, 28);
        fault("room = if 3 < 4 < 5 then 5 else 6;", 1, 16);
        fault("room = (if 1 < 2 then 3 else 4);", 1, 8);
        fault("room = if 1 < 2 then 3 else if 3 < 4 then 5 else 6;", 0, -1);
        fault("room = if 1 < 2 then if 3 < 4 then 5 else 6 else 7;", 1, 21);
        fault("room = 1 + 2 * (3 - rung) / deep;quarrel=minute;cup=water;breaks=here;", 0, -1);
        fault("seed 12345;", 1, 5);
        fault("seed 9999;", 0, -1);
        fault("seed \u0000 3;", 1, 5);
        fault("person \u0002 0 1 1 1;", 1, 7);
        fault("seed \u0003;", 1, 5);
        fault("seed 3;\u0000", 1, 7);
        fault("person zoz 0 1 1 1;", 0, -1);
        fault("seed 3 > 2;", 1, 7);
        fault("seed 3;\u00e9", 1, 7);
    }

    private static void readRoom() {
        on(4);
        String five = "person a 0 1 1 1;person b 0 1 1 1;person c 0 1 1 1;person d 0 1 1 1;person e 0 1 1 1;";
        fault(five, 0, -1);
        fault(five + "person f 0 1 1 1;", 2, 85);
        fault(five + "person", 2, 85);
        fault(five + "person a 0 1 1 1;", 2, 85);
        String anIf = "if 1<2 then 3 else ";
        fault("cup = " + times(4, anIf) + "4;", 0, -1);
        fault("cup = " + times(5, anIf) + "4;", 2, 6 + 4 * 19);
        fault("cup = " + times(4, anIf) + "if ;", 2, 6 + 4 * 19);
        fault("cup = " + times(4, anIf) + "4;room = " + times(4, anIf) + "4;", 0, -1);
        fault("cup = ((((((1))))));", 0, -1);
        fault("cup = (((((((1)))))));", 2, 12);
        fault("cup = (((((((", 2, 12);
        fault("cup = ((((((1))))))+((((((1))))));", 0, -1);
        fault("cup = if ((((((1)))))) < ((((((2)))))) then ((((((1)))))) else ((((((1))))));", 0, -1);
        fault("cup = if 1 < 2 then (((((((1))))))) else 1;", 2, 26);
        fault("cup = if 1 < (((((((2))))))) then 1 else 1;", 2, 19);
        fault("cup = if ((((((1)))))) < ((((((2)))))) then 1 else (((((((1)))))));", 2, 57);
        // 133 TELLS of three TOKENS each are 399.
        String most = times(133, "seed 1;");
        fault(most, 0, -1);
        fault(most + "seed", 1, 935);
        fault(most + "seed 1;", 2, 936);
        fault(most + "seed 1 ;", 2, 936);
        fault(most + "seed ;", 1, 936);
        fault(most + "seed ?", 1, 936);
        fault(most + ";", 1, 931);
        // With n times "1+" these are 4 + 2 * n TOKENS: 400 with 198, and 402, the 401st of which is the last 1.
        fault("room = " + times(198, "1+") + "1;", 0, -1);
        fault("room = " + times(199, "1+") + "1;", 2, 7 + 2 * 199);
        fault("room = " + times(198, "1+") + "1;room", 2, 7 + 2 * 198 + 2);
        fault("room = " + times(198, "1+") + "1; 8", 1, 7 + 2 * 198 + 3);
        fault("room = " + times(198, "1+") + "1 1", 1, 7 + 2 * 198 + 2);
        // The first by its place counts, whatever its number.
        fault(five + "person f 0 1 1 1; ?", 2, 85);
        fault("? " + five + "person f 0 1 1 1;", 1, 0);
    }

    private static void readMeaning() {
        on(4);
        fault("shaft 0;", 5, 6);
        fault("shaft 13;", 5, 6);
        fault("shaft 1;", 0, -1);
        fault("shaft 12;", 0, -1);
        fault("shaft 12; shaft   0;", 5, 18);
        fault("person a 12 1 1 1;", 5, 9);
        fault("shaft 12;person a 11 1 1 1;", 0, -1);
        fault("person a 0 0 1 1;", 5, 11);
        fault("person a 0 10 1 1;", 5, 11);
        fault("person a 0 9 10 1;", 5, 13);
        fault("person a 0 9 9 10;", 5, 15);
        fault("person a 0 9 9 9;", 0, -1);
        fault("person a 0 1 1 1;person a 0 1 1 1;", 3, 24);
        fault("person a 0 1 1 1;person b 0 1 1 1;person a 99 1 1 1;", 3, 41);
        fault("person a 99 1 1 1;person a 0 1 1 1;", 5, 9);
        fault("person ab 0 1 1 1;person b 0 1 1 1;person ba 0 1 1 1;person a 0 1 1 1;", 0, -1);
        fault("person a 8 1 1 1;", 6, 17);
        fault("person a 8 1 1 1; ", 6, 18);
        fault("person a 8 1 1 1;shaft 9;", 0, -1);
        fault("shaft 9;person a 8 1 1 1;shaft 8;", 6, 33);
        fault("person a 8 1 1 1;person a 0 1 1 1;", 3, 24);
        fault("person a 8 1 1 1;shaft 13;", 5, 23);
        // What no text goes on with counts ahead of what is told wrongly, wherever it is.
        fault("shaft 0;person a 0 1 1 1;person a 0 1 1 1;!", 1, 42);
        fault("shaft 0;cup = (((((((1)))))));", 2, 20);
    }

    private static void readAnew() {
        on(4);
        LadderStreet x = told("shaft 3;person a 0 2 3 4;room = 5;seed 7;breaks = 0;");
        x.send(0, 2);
        x.minutes(1);
        x.bucket(50);
        x.tell(1, true);
        x.hold(1);
        tape(x, "shaft 5; person b 0 1 1 1 ?");
        due("a text with a FAULT", x.read(), 1);
        due("place", x.place(), 26);
        due("the tape is empty", x.count(8), 0);
        due("RUNGS stay", x.count(0), 3);
        due("the minute stays", x.count(2), 1);
        due("things that can be undone stay", x.count(9), 3);
        due("what was TOLD stays", x.count(10), 1);
        due("SLOTS stay", x.count(11), 1);
        due("the RUNG stays", x.person(0, 0), 1);
        due("ROOM stays", x.rung(0, 0), 5);
        due("read of an empty tape", x.read(), 0);
        on(5);
        due("place without FAULT", x.place(), -1);
        on(4);
        due("RUNGS", x.count(0), 8);
        due("PEOPLE", x.count(1), 0);
        due("ROOM is not told", x.rung(0, 0), 9);
        for (int what = 2; what <= 14; what++) {
            due("count(" + what + ")", x.count(what), 0);
        }
        due("undo", x.undo(), false);
        due("restore", x.restore(1), false);
        LadderStreet y = told("shaft 2;person a 1 9 0 0;shaft 4;room=1;room=2;seed 3;seed 4;person b 1 9 0 0;");
        due("the last shaft", y.count(0), 4);
        due("the last LAW", y.rung(0, 0), 2);
        due("more on a RUNG than its ROOM", y.count(13), 2);
    }

    private static void personsAndRungs() {
        LadderStreet x = told("shaft 4;person a 1 2 3 4;person b 3 9 0 9;room = 9 - rung * 3;breaks = here * 7;");
        on(6);
        due("RUNG", x.person(0, 0), 1);
        due("WIDTH", x.person(0, 1), 2);
        due("TEMPER", x.person(0, 2), 3);
        due("THIRST", x.person(0, 3), 4);
        due("goal", x.person(0, 4), -2);
        due("waited", x.person(0, 5), 0);
        due("took", x.person(0, 6), 0);
        due("fell", x.person(0, 7), 0);
        due("WIDTH of b", x.person(1, 1), 9);
        due("what 8", x.person(0, 8), -1);
        due("what -1", x.person(0, -1), -1);
        due("person 2", x.person(2, 0), -1);
        due("person -1", x.person(-1, 0), -1);
        due("send", x.send(0, 0), true);
        due("goal", x.person(0, 4), 0);
        x.bucket(99);
        due("took", x.person(0, 6), 4);
        due("took", x.person(1, 6), 9);
        on(7);
        due("ROOM 0", x.rung(0, 0), 9);
        due("ROOM 3", x.rung(3, 0), 0);
        due("WIDTHS", x.rung(1, 1), 2);
        due("PEOPLE", x.rung(3, 2), 2);
        due("whole", x.rung(3, 3), 1);
        due("BREAKS", x.rung(3, 4), 63);
        due("broke", x.rung(3, 5), 0);
        due("what 6", x.rung(0, 6), -1);
        due("what -1", x.rung(0, -1), -1);
        due("rung 4", x.rung(4, 0), -1);
        due("rung -1", x.rung(-1, 0), -1);
        due("rung far", x.rung(Integer.MAX_VALUE, 0), -1);
    }

    private static int room(String law, int rung) {
        LadderStreet x = told("shaft 5;room = " + law + ";");
        return x.rung(rung, 0);
    }

    private static void lawsAreReckoned() {
        on(7);
        due("from the left", room("20 - 5 - 3", 0), 12);
        due("* before +", room("2 + 3 * 4", 0), 14);
        due("/ rounded", room("7 / 2 * 2", 0), 6);
        due("/ 1", room("7 / 1", 0), 7);
        due("brackets", room("(2 + 3) * 4", 0), 20);
        due("rounded towards 0", room("10 + (0 - 7) / 2", 0), 7);
        due("held to 99", room("100", 0), 99);
        due("held to 0", room("3 - 5", 0), 0);
        due("first that holds", room("if rung < 2 then 11 else if rung < 4 then 22 else 33", 1), 11);
        due("second", room("if rung < 2 then 11 else if rung < 4 then 22 else 33", 2), 22);
        due("last", room("if rung < 2 then 11 else if rung < 4 then 22 else 33", 4), 33);
        due("not less", room("if 3 < 3 then 11 else 22", 0), 22);
        due("divided by 0", room("5 + 3 / 0", 0), 0);
        due("divided by 0, not looked at", room("if rung < 1 then 7 else 3 / 0", 0), 7);
        due("divided by 0, not looked at", room("if 1 < rung then 3 / 0 else 7", 0), 7);
        due("divided by 0 in a condition", room("if 1 / rung < 2 then 7 else 8", 0), 0);
        due("divided by 0 in the other side", room("if 2 < 1 / rung then 7 else 8", 0), 0);
        due("divided by 0 in a later condition", room("if 1 < 2 then 7 else if 1 / 0 < 2 then 3 else 4", 0), 7);
        due("times 0 is looked at", room("5 + 0 * (1 / 0)", 0), 0);
        due("2^31 wraps", room("if 4096 * 4096 * 128 < 0 then 1 else 2", 0), 1);
        due("2^32 wraps to 0", room("4096 * 4096 * 256 + 5", 0), 5);
        due("sums wrap", room("if 4096 * 4096 * 127 + 4096 * 4096 < 0 then 1 else 2", 0), 1);
        due("the least int by -1 wraps", room("if (4096 * 4096 * 128) / (0 - 1) < 0 then 1 else 2", 0), 1);
        due("deep", room("deep * 2", 0), 10);
        due("VARS not told", room("9 + width + temper + thirst + waited + here + water", 0), 9);
        due("six brackets", room("((((((rung + 1))))))", 3), 4);
        due("deep brackets keep all", room("1+2*(3+4*(5+6*(7+8*(9-9*(2-1*(1+0))))))/9", 0),
            1 + 2 * (3 + 4 * (5 + 6 * (7 + 8 * (9 - 9 * (2 - 1 * (1 + 0)))))) / 9);
        due("of 400 TOKENS", told("room = 250" + times(198, "-1") + ";").rung(7, 0), 52);
        LadderStreet x = told("room = minute + 3;shaft 2;");
        x.minutes(5);
        due("minute", x.rung(1, 0), 8);
        x.minutes(60);
        x.minutes(60);
        due("held", x.rung(1, 0), 99);
    }

    private static void lawsGetTheirVars() {
        on(12);
        // a wants from 2 to 1, where b stands: rung 2, width 4, temper 5, thirst 6, here 7, deep 3.
        String two = "shaft 3;person a 2 4 5 6;person b 1 7 0 0;room = 9;";
        String[] vars = {"rung", "deep", "minute", "width", "temper", "thirst", "waited", "here", "water"};
        int[] first = {2, 3, 0, 4, 5, 6, 0, 7, 0};
        int[] third = {2, 3, 2, 4, 5, 6, 2, 7, 0};
        for (int i = 0; i < vars.length; i++) {
            LadderStreet x = told(two + "quarrel = " + vars[i] + ";");
            x.send(0, 0);
            x.minutes(1);
            due("quarrel = " + vars[i], x.count(3), first[i]);
            x.minutes(1);
            int two2 = x.count(3);
            x.minutes(1);
            due("quarrel = " + vars[i] + ", third", x.count(3) - two2, third[i]);
        }
        on(11);
        int[] cup = {2, 3, 1, 4, 5, 6, 0, 0, 9};
        for (int i = 0; i < vars.length; i++) {
            LadderStreet x = told(two + "cup = if width < 7 then " + vars[i] + " else 0;");
            x.send(0, 0);
            x.minutes(1);
            due("bucket with cup = " + vars[i], x.bucket(9), 9 - cup[i]);
        }
        on(7);
        int[] breaks = {1, 3, 4, 0, 0, 0, 0, 7, 0};
        for (int i = 0; i < vars.length; i++) {
            LadderStreet x = told(two + "breaks = if minute < 4 then 0 else " + vars[i] + ";");
            x.minutes(4);
            due("breaks = " + vars[i], x.rung(1, 4), breaks[i]);
        }
        on(12);
        LadderStreet y = told(two + "quarrel = 500;");
        y.send(0, 0);
        y.minutes(2);
        due("QUARREL held to 99", y.count(3), 198);
        LadderStreet z = told(two + "quarrel = 0 - 5;");
        z.send(0, 0);
        z.minutes(2);
        due("QUARREL held to 0", z.count(3), 0);
        due("BREAKS held to 100", told(two + "breaks = 101;").rung(0, 4), 100);
        due("BREAKS held to 0", told(two + "breaks = 0 - 1;").rung(0, 4), 0);
    }

    private static void canGo() {
        LadderStreet x = told("shaft 4;person a 1 5 0 1;person b 2 5 9 1;room = if rung < 1 then 5 else 9;"
            + "breaks = if rung < 3 then 0 else 100;");
        on(8);
        due("just ROOM", x.can(0, 0), 1);
        due("no ROOM", x.can(0, 2), 0);
        due("free", x.can(1, 3), 1);
        due("own RUNG", x.can(0, 1), -1);
        due("not next", x.can(0, 3), -1);
        due("no RUNG -1", x.can(0, -1), -1);
        due("no RUNG 4", x.can(1, 4), -1);
        due("no person", x.can(2, 1), -1);
        due("no person -1", x.can(-1, 0), -1);
        x.minutes(1);
        due("broken", x.can(1, 3), 0);
        due("wrap", x.can(0, Integer.MIN_VALUE), -1);
    }

    private static void sending() {
        LadderStreet x = told("shaft 4;person a 1 5 0 1;person b 2 5 9 1;");
        on(9);
        due("no person", x.send(2, 0), false);
        due("person -1", x.send(-1, 0), false);
        due("RUNG 4", x.send(0, 4), false);
        due("RUNG -2", x.send(0, -2), false);
        due("no goal is so", x.send(0, -1), false);
        due("where they are", x.send(0, 1), false);
        due("nothing done", x.count(9), 0);
        due("sent", x.send(0, 3), true);
        due("it is so", x.send(0, 3), false);
        due("goal", x.person(0, 4), 3);
        x.minutes(2);
        due("waited", x.person(0, 5), 2);
        due("another goal", x.send(0, 2), true);
        due("what was waited stays", x.person(0, 5), 2);
        due("to where they are", x.send(0, 1), true);
        due("none", x.person(0, 4), -2);
        due("waited 0", x.person(0, 5), 0);
        x.send(0, 3);
        x.minutes(1);
        due("to none", x.send(0, -1), true);
        due("none", x.person(0, 4), -2);
        due("waited 0", x.person(0, 5), 0);
        due("PEOPLE with a goal", x.count(5), 0);
    }

    private static void mending() {
        LadderStreet x = told("shaft 3;breaks = if rung < 1 then 100 else if minute < 1 then rung - 1 - 1 else 0;");
        on(10);
        due("whole", x.mend(0), false);
        x.minutes(1);
        due("broken", x.count(4), 1);
        due("no RUNG", x.mend(3), false);
        due("it is not whole", x.rung(0, 3), 0);
        due("BREAKS now", x.rung(0, 4), 0);
        due("RUNG -1", x.mend(-1), false);
        due("things done", x.count(9), 1);
        due("mended", x.mend(0), true);
        due("whole", x.mend(0), false);
        due("none is broken", x.count(4), 0);
        due("it is whole", x.rung(0, 3), 1);
        due("BREAKS now", x.rung(0, 4), 100);
        due("broke", x.rung(0, 5), 1);
        x.minutes(1);
        due("broke again", x.rung(0, 5), 2);
    }

    private static void buckets() {
        LadderStreet x = told("shaft 3;person a 2 1 0 4;person b 0 1 0 3;person c 2 1 0 5;cup = thirst * 2;");
        on(11);
        due("bucket(-1)", x.bucket(-1), -1);
        due("bucket(100)", x.bucket(100), -1);
        due("nothing done", x.count(9), 0);
        due("from the top, by number", x.bucket(20), 0);
        due("b first", x.person(1, 6), 6);
        due("then a", x.person(0, 6), 8);
        due("c has what is left", x.person(2, 6), 6);
        due("bucket(0) is a thing done", x.bucket(0), 0);
        due("things", x.count(9), 2);
        due("all have enough", x.bucket(99), 75);
        due("water taken", x.count(6), 44);
        LadderStreet y = told("shaft 3;person a 2 1 0 4;cup = 0 - 5;");
        due("CUP held to 0", y.bucket(7), 7);
        LadderStreet z = told("shaft 3;person a 2 1 0 4;breaks=100;");
        z.minutes(1);
        due("thirst, if CUP is not told; broken RUNGS too", z.bucket(7), 3);
        due("nobody", new LadderStreet().bucket(99), 99);
    }

    private static void minutesGoBy() {
        on(12);
        LadderStreet x = told("shaft 6;person a 0 4 3 2;person b 1 4 0 1;room = 7;quarrel = 10 + waited;");
        due("minutes(-1)", x.minutes(-1), -1);
        due("minutes(61)", x.minutes(61), -1);
        due("minutes(0)", x.minutes(0), 0);
        due("no thing done", x.count(9), 0);
        x.send(0, 3);
        x.send(1, 2);
        // a goes first, when b is still in the way; then b goes.
        due("minute", x.minutes(1), 1);
        due("a waits", x.person(0, 0), 0);
        due("b is there", x.person(1, 0), 2);
        due("b has no goal", x.person(1, 4), -2);
        due("a waited", x.person(0, 5), 1);
        due("QUARRELS", x.count(3), 10);
        due("minute", x.minutes(1), 2);
        due("a goes", x.person(0, 0), 1);
        due("waited 0", x.person(0, 5), 0);
        due("minutes(60)", x.minutes(60), 62);
        due("a waits", x.person(0, 5), 60);
        due("QUARRELS", x.count(3), 10 + 60 * 10 + 59 * 60 / 2);
        due("one thing", x.count(9), 5);
        // The other way round: b comes up to where a has just left.
        LadderStreet y = told("shaft 6;person a 1 4 3 2;person b 0 4 0 1;room = 7;quarrel = 10;");
        y.send(0, 3);
        y.send(1, 1);
        y.minutes(1);
        due("a goes", y.person(0, 0), 2);
        due("b goes behind", y.person(1, 0), 1);
        due("no QUARREL", y.count(3), 0);
        y.minutes(1);
        due("a is there", y.person(0, 0), 3);
        due("no goal", y.count(5), 0);
        LadderStreet z = told("shaft 2;person a 0 4 3 2;person b 1 4 0 1;person c 0 4 3 2;person d 0 4 3 2;"
            + "person e 0 4 3 2;room = 7;quarrel = 99;");
        for (int p = 0; p < 5; p++) {
            z.send(p, p == 1 ? 0 : 1);
        }
        for (int i = 0; i < 5; i++) {
            z.minutes(60);
        }
        // Five who wait for 300 MINUTES would be 148,500.
        due("QUARRELS", z.count(3), 99999);
        due("99,999 at most, then()", z.then(0, 9, 2), 0);
        due("waited goes on", z.person(0, 5), 300);
    }

    private static int lot(int n, int seed, int which) {
        long h = seed;
        for (int it : new int[] {131, which}) {
            h = ((h ^ it) * 1103515245L + 12345L) & 0xffffffffL;
            h ^= h >> 15;
        }
        return (int) ((h >> 1) % n);
    }

    private static void rungsBreak() {
        on(12);
        for (int seed = 0; seed < 30; seed++) {
            LadderStreet x = told("shaft 12;breaks = 50;seed " + seed * 331 + ";");
            x.minutes(2);
            int broken = 0;
            for (int minute = 0; minute < 2; minute++) {
                for (int rung = 0; rung < 12; rung++) {
                    broken |= lot(100, seed * 331, 16 * minute + rung) < 50 ? 1 << rung : 0;
                }
            }
            due("RUNGS broken by SEED " + seed * 331, x.count(4), broken);
        }
        int unseeded = 0;
        for (int rung = 0; rung < 12; rung++) {
            unseeded |= lot(100, 0, rung) < 50 ? 1 << rung : 0;
        }
        LadderStreet w = told("shaft 12;breaks = 50;");
        w.minutes(1);
        due("SEED 0, if not told", w.count(4), unseeded);
        tape(w, "seed 5;");
        w.read();
        tape(w, "shaft 12;breaks = 50;");
        w.read();
        w.minutes(1);
        due("SEED 0 again", w.count(4), unseeded);
        // a stands on 0, b on 1, c on 2; 0 and 1 break: both fall to 2, whatever its ROOM; c stays.
        LadderStreet x = told("shaft 4;person a 0 3 0 0;person b 1 3 0 0;person c 2 3 0 0;room = 3;"
            + "breaks = if rung < 2 then 100 else 0;");
        x.send(1, 3);
        due("a goal", x.count(5), 2);
        x.minutes(1);
        due("broken", x.count(4), 3);
        due("a fell", x.person(0, 0), 2);
        due("b fell", x.person(1, 0), 2);
        due("c stays", x.person(2, 0), 2);
        due("b has no goal", x.person(1, 4), -2);
        due("b waited 0", x.person(1, 5), 0);
        due("fell", x.person(0, 7), 1);
        due("c did not fall", x.person(2, 7), 0);
        due("all falls", x.count(7), 2);
        x.minutes(3);
        due("what is broken does not break again", x.rung(0, 5), 1);
        due("nobody falls again", x.count(7), 2);
        // Nothing whole below: they stay on the broken RUNG and did not fall, and have no goal.
        LadderStreet y = told("shaft 2;person a 1 3 0 0;person b 0 1 0 0;breaks = rung * 100;room = 3;");
        y.send(0, 0);
        y.minutes(1);
        due("stays", y.person(0, 0), 1);
        due("did not fall", y.person(0, 7), 0);
        due("no goal", y.person(0, 4), -2);
        due("waited 0", y.person(0, 5), 0);
        due("WIDTHS on the broken RUNG", y.rung(1, 1), 3);
        // BREAKS see where all are behind the going, and all break at once: by the WIDTHS ahead of the falling.
        LadderStreet z = told("shaft 3;person a 0 3 0 0;breaks = here * 40;");
        z.send(0, 1);
        z.minutes(1);
        due("the RUNG come to breaks alone", z.count(4), 2);
        due("fell to 2", z.person(0, 0), 2);
        due("at the next minute that breaks too", z.then(0, 1, 3), 2);
        due("and they stay", z.then(0, 1, 0), 2);
    }

    private static void undoing() {
        on(13);
        LadderStreet x = told("shaft 3;person a 0 2 3 4;person b 2 8 3 4;breaks = if minute < 4 then 0 else 100;quarrel = 2;");
        due("nothing to undo", x.undo(), false);
        x.send(0, 2);
        x.bucket(7);
        x.minutes(3);
        x.minutes(2);
        x.mend(0);
        due("things", x.count(9), 5);
        due("undo mend", x.undo(), true);
        due("broken again", x.count(4), 7);
        due("undo minutes", x.undo(), true);
        due("whole", x.count(4), 0);
        due("broke", x.rung(0, 5), 0);
        due("minute", x.count(2), 3);
        due("place", x.person(0, 0), 1);
        due("QUARRELS", x.count(3), 4);
        due("undo minutes", x.undo(), true);
        due("minute", x.count(2), 0);
        due("QUARRELS", x.count(3), 0);
        due("waited", x.person(0, 5), 0);
        due("undo bucket", x.undo(), true);
        due("water", x.count(6), 0);
        due("goal", x.person(0, 4), 2);
        due("undo send", x.undo(), true);
        due("no goal", x.person(0, 4), -2);
        due("no more", x.undo(), false);
        for (int i = 0; i < 45; i++) {
            x.bucket(1);
            x.tell(1, true);
        }
        due("40 at most", x.count(9), 40);
        int undone = 0;
        while (x.undo()) {
            undone++;
        }
        due("undone", undone, 40);
        due("five stay", x.count(6), 5);
        due("what is TOLD is not undone", x.count(10), 20);
    }

    private static void waysAreInTheWay() {
        on(14);
        LadderStreet x = told("shaft 6;person a 0 4 0 0;person b 2 3 0 0;person c 4 5 0 0;room = 8;"
            + "breaks = if rung < 3 then 0 else if rung < 4 then 100 else 0;");
        due("own RUNG", x.inTheWay(0, 0), 0);
        due("to 3", x.inTheWay(0, 3), 0);
        due("to 4", x.inTheWay(0, 4), 16);
        due("to 5", x.inTheWay(0, 5), 16);
        due("up from 4", x.inTheWay(2, 0), 1);
        due("up from 4 to 1", x.inTheWay(2, 1), 0);
        x.minutes(1);
        due("not whole", x.inTheWay(0, 5), 8 + 16);
        due("RUNG -1", x.inTheWay(0, -1), -1);
        due("RUNG 6", x.inTheWay(0, 6), -1);
        due("no person", x.inTheWay(3, 0), -1);
    }

    private static void errandsAreOver() {
        on(15);
        LadderStreet x = told("shaft 12;person a 0 4 0 0;person b 11 3 0 0;room = if minute < 30 then 4 else 9;breaks = 100;");
        due("nobody has a goal", x.errands(), 0);
        x.send(0, 3);
        due("no BREAKS in ERRANDS", x.errands(), 3);
        x.send(1, 0);
        x.send(0, 11);
        // They meet on 5 and 6 in minute 5, wait until minute 30, and pass.
        due("ROOM of the minute", x.errands(), 36);
        due("nothing happens", x.count(2), 0);
        due("nothing happens", x.person(0, 0), 0);
        x.send(1, -1);
        due("kept for good by one who stands, until there is ROOM", x.errands(), 31);
        LadderStreet y = told("shaft 2;person a 0 4 0 0;room = if minute < 199 then 3 else 4;");
        y.send(0, 1);
        due("200", y.errands(), 200);
        LadderStreet z = told("shaft 2;person a 0 4 0 0;room = if minute < 200 then 3 else 4;");
        z.send(0, 1);
        due("201 are too many", z.errands(), -2);
    }

    private static void pastEachOther() {
        on(16);
        LadderStreet x = told("shaft 4;person a 0 2 0 0;person b 2 2 0 0;room = if rung < 3 then 3 else 4;");
        due("both there", x.past(0, 0, 1, 2), 0);
        // a to 1, b to 3; a to 2; a to 3, and b, who goes second, up to 2, which a has just left.
        due("past each other by RUNG 3", x.past(0, 3, 1, 2), 3);
        // If b goes first, 2 is not yet left then.
        due("the other way round", x.past(1, 2, 0, 3), 4);
        due("b to the top, a to the bottom", x.past(0, 3, 1, 0), 5);
        due("a first, then b", x.past(0, 1, 1, 3), 1);
        LadderStreet t = told("shaft 6;person a 5 2 0 0;person b 0 2 0 0;room = 3;");
        due("one RUNG a minute, up", t.past(0, 1, 1, 0), 4);
        due("one RUNG a minute, down", t.past(1, 4, 0, 5), 4);
        due("one and the same", x.past(0, 1, 0, 1), -1);
        due("no person", x.past(0, 1, 2, 1), -1);
        due("no person -1", x.past(-1, 1, 0, 1), -1);
        due("no RUNG", x.past(0, 4, 1, 1), -1);
        due("no other RUNG", x.past(0, 1, 1, -1), -1);
        LadderStreet y = told("shaft 4;person a 0 2 0 0;person b 3 2 0 0;room = 3;");
        due("no place to pass", y.past(0, 3, 1, 0), -2);
        due("both on one RUNG", y.past(0, 1, 1, 1), -2);
        // In one minute a comes behind b only once b is gone; b goes second.
        LadderStreet z = told("shaft 3;person a 0 2 0 0;person b 1 2 0 0;person c 2 9 0 0;room = 3;");
        due("the one goes first: b is still there", z.past(0, 1, 1, 0), -2);
        due("c never moves", z.past(0, 1, 1, 2), -2);
        LadderStreet w = told("shaft 3;person a 0 2 0 0;person b 1 2 0 0;room = 3;");
        due("a waits for b", w.past(0, 1, 1, 2), 2);
        due("b first, then a", w.past(1, 2, 0, 1), 1);
        LadderStreet v = told("shaft 2;person a 0 2 0 0;person b 1 2 0 0;room = if minute < 39 then 3 else 4;");
        due("no ROOM for both now", v.past(0, 1, 1, 0), -2);
        v.minutes(38);
        due("nor now", v.past(0, 1, 1, 0), -2);
        v.minutes(1);
        due("ROOM for both now", v.past(0, 1, 1, 0), 1);
        // They change places at the bottom: both are there in minute 11, then a has 11 RUNGS up.
        LadderStreet u = told("shaft 12;person a 1 1 0 0;person b 0 1 0 0;room = if rung < 11 then 1 else 2;");
        due("down and up again", u.past(0, 0, 1, 1), 22);
        // b, who goes first, is a RUNG farther behind a: there in minute 12, gone again in minute 14.
        due("there is no longer way", u.past(1, 1, 0, 0), 23);
    }

    private static void aloneAndReach() {
        LadderStreet x = told("shaft 6;person a 0 4 0 0;person b 3 5 0 0;person c 5 2 0 0;room = 8;");
        on(17);
        due("own RUNG", x.alone(0, 0), 0);
        due("near", x.alone(0, 2), 2);
        due("behind b", x.alone(0, 5), -2);
        due("on b", x.alone(0, 3), -2);
        due("c past b", x.alone(2, 0), 5);
        due("no person", x.alone(3, 0), -1);
        due("no RUNG", x.alone(0, 6), -1);
        due("RUNG -1", x.alone(0, -1), -1);
        on(18);
        due("a", x.reach(0), 7);
        due("b", x.reach(1), 2 + 4 + 8 + 16 + 32);
        due("c", x.reach(2), 63);
        due("no person", x.reach(3), -1);
        due("no person -1", x.reach(-1), -1);
        LadderStreet y = told("shaft 3;person a 0 9 0 0;room = 5;");
        due("their own too, if there is no ROOM", y.reach(0), 1);
        on(17);
        LadderStreet z = told("shaft 3;person a 0 4 0 0;room = if minute < 4 then 3 else 4;");
        due("there is no ROOM now", z.alone(0, 1), -2);
        due("own RUNG", z.alone(0, 0), 0);
        due("no way now", z.reach(0), 1);
        z.minutes(4);
        due("there is ROOM now", z.alone(0, 1), 1);
        due("there is ROOM now", z.alone(0, 2), 2);
        LadderStreet r = told("shaft 3;person a 0 4 0 0;room = if minute < 1 then 4 else 3;");
        due("ROOM of now counts in each minute", r.alone(0, 1), 1);
        due("ROOM of now counts in each minute", r.alone(0, 2), 2);
        on(18);
        due("ROOM of now counts in each minute", r.reach(0), 7);
        r.minutes(1);
        due("no ROOM now", r.reach(0), 1);
        due("ROOM now", z.reach(0), 7);
        LadderStreet w = told("shaft 3;person a 1 4 0 0;breaks = if rung < 2 then 0 else 100;");
        w.minutes(1);
        due("not whole", w.reach(0), 3);
    }

    private static void aboveAndDriest() {
        LadderStreet x = told("shaft 6;person a 2 4 0 5;person b 3 5 0 2;person c 0 2 0 2;person d 2 1 1 9;");
        on(19);
        due("a", x.above(0), 4);
        due("b", x.above(1), 1 + 4 + 8);
        due("c", x.above(2), 0);
        due("no person", x.above(4), -1);
        due("no person -1", x.above(-1), -1);
        on(20);
        due("all alike", x.driest(0), 0);
        x.bucket(99);
        due("who", x.driest(0), 1);
        due("how much", x.driest(1), 2);
        due("what 2", x.driest(2), -1);
        due("what -1", x.driest(-1), -1);
        due("nobody", new LadderStreet().driest(1), -2);
        due("nobody, what 2", new LadderStreet().driest(2), -1);
    }

    private static void partsAndLeast() {
        LadderStreet x = told("shaft 5;person a 0 4 0 0;person b 1 2 0 0;person c 3 3 0 0;person d 4 1 0 0;room = 7;"
            + "breaks = if rung < 1 then 0 else if rung < 2 then 100 else 0;");
        on(21);
        // RUNG 2 has nobody: above a 4, b 2; below c 3, d 1. Width 4: a-c 4+4, a-d 8 no; b-c 7, b-d 6 fit.
        due("RUNG 2, 4", x.parts(4, 2), 2);
        due("RUNG 2, 3", x.parts(3, 2), 0);
        due("RUNG 2, 5", x.parts(5, 2), 3);
        due("RUNG 2, 6", x.parts(6, 2), 4);
        due("RUNG 0: nobody above", x.parts(9, 0), 0);
        due("RUNG 3: a-d 3+1+4", x.parts(1, 3), 1);
        due("RUNG 3: a-d, b-d", x.parts(3, 3), 2);
        due("width 0", x.parts(0, 2), -1);
        due("width 10", x.parts(10, 2), -1);
        due("RUNG 5", x.parts(1, 5), -1);
        due("RUNG -1", x.parts(1, -1), -1);
        on(22);
        due("LEAST 3: RUNG 0 takes it", x.least(3, 0), 0);
        due("LEAST 3", x.least(3, 1), 0);
        due("LEAST 4: not on 0; 1: 2+4 fits, but parts a from c and d; 4 parts none", x.least(4, 0), 4);
        due("LEAST 4", x.least(4, 1), 0);
        due("LEAST 7: RUNG 2 alone", x.least(7, 0), 2);
        due("LEAST 7", x.least(7, 1), 4);
        due("LEAST 8", x.least(8, 0), -2);
        due("LEAST 1", x.least(1, 0), 0);
        due("LEAST 9", x.least(9, 0), -2);
        due("LEAST 8", x.least(8, 1), -2);
        due("LEAST 8, what 2", x.least(8, 2), -1);
        due("width 0", x.least(0, 0), -1);
        due("width 10", x.least(10, 1), -1);
        x.minutes(1);
        on(21);
        due("not whole: all pairs", x.parts(1, 1), 3);
        due("whole RUNG 2: b fell to it; a-c, a-d", x.parts(2, 2), 2);
        on(22);
        due("a broken RUNG is none", x.least(7, 0), -2);
        due("4 is left", x.least(6, 0), 4);
        LadderStreet y = told("shaft 3;person a 0 1 0 0;person c 2 1 0 0;breaks = if rung < 1 then 0 else if rung < 2 then "
            + "100 else 0;");
        on(21);
        y.minutes(1);
        due("not whole: all pairs", y.parts(1, 1), 1);
        LadderStreet z = told("shaft 3;person a 0 1 0 0;person b 0 2 0 0;person c 2 9 0 0;room = if rung < 1 then 0 else if "
            + "rung < 2 then 9 else 0;");
        due("the wider one", z.parts(1, 1), 2);
        LadderStreet v = told("shaft 3;person a 2 9 0 0;person b 0 9 0 0;");
        due("the first one below", v.parts(1, 1), 1);
    }

    private static void homesForAll() {
        on(23);
        LadderStreet x = told("shaft 4;person a 1 5 0 0;person b 1 5 0 0;person c 1 2 0 0;room = 7;"
            + "breaks = if rung < 3 then 0 else 100;");
        due("too many on 1", x.homes(0, -1), 0);
        due("they can't", x.homes(0, 0), -2);
        due("they can", x.homes(1, -1), 1);
        due("a", x.homes(1, 0), 0);
        due("b", x.homes(1, 1), 1);
        due("c beside a", x.homes(1, 2), 0);
        due("d 12", x.homes(12, -1), -1);
        due("d -1", x.homes(-1, -1), -1);
        due("person 3", x.homes(1, 3), -1);
        due("person 3, though they can't", x.homes(0, 3), -1);
        due("person -2", x.homes(1, -2), -1);
        LadderStreet y = told("shaft 3;person a 0 5 0 0;person b 0 5 0 0;person c 0 5 0 0;room = 7;"
            + "breaks = if rung < 2 then 0 else 100;");
        due("each on one", y.homes(2, -1), 1);
        due("c on 2", y.homes(2, 2), 2);
        y.minutes(1);
        due("2 is not whole", y.homes(11, -1), 0);
        // The first one must make way for the later ones, if need be.
        LadderStreet z = told("shaft 3;person a 1 3 0 0;person b 0 3 0 0;room = 3;");
        due("a can't have 0, as b has no other", z.homes(0, 0), 1);
        due("a has 0, as b can go to 1", z.homes(1, 0), 0);
        due("b goes to 1", z.homes(1, 1), 1);
        due("nobody", new LadderStreet().homes(11, -1), 1);
        due("nobody 0", new LadderStreet().homes(11, 0), -1);
        LadderStreet w = told("shaft 1;person a 0 9 0 0;room = 8;");
        due("no ROOM", w.homes(11, -1), 0);
        LadderStreet v = told("shaft 2;person a 0 2 0 0;person b 0 5 0 0;room = if rung < 1 then 5 else 2;");
        due("a makes way for b", v.homes(1, 0), 1);
        due("b has 0", v.homes(1, 1), 0);
    }

    private static void sharesAndEnough() {
        LadderStreet x = told("shaft 3;person a 2 1 0 4;person b 0 1 0 3;cup = if water < 9 then water / 2 else thirst;");
        on(24);
        due("b of 20", x.share(1, 20), 3);
        due("a of 20", x.share(0, 20), 4);
        due("a of 11", x.share(0, 11), 4);
        due("b of 8", x.share(1, 8), 4);
        due("a of 8", x.share(0, 8), 2);
        due("a of 0", x.share(0, 0), 0);
        due("w -1", x.share(0, -1), -1);
        due("w 100", x.share(0, 100), -1);
        due("person 2", x.share(2, 9), -1);
        due("nothing happens", x.count(6), 0);
        x.bucket(99);
        due("what they took so far is not counted", x.share(0, 20), 4);
        on(25);
        // b takes 3 of 9 or more, and 3 of 6 or 7; a takes 4 of what is left from 8 on: 8/2 or 9 and more.
        due("enough", x.enough(), 11);
        due("nobody", new LadderStreet().enough(), 0);
        LadderStreet y = told("person a 0 1 1 1;cup = water;");
        due("all of it", y.enough(), 99);
        LadderStreet z = told("person a 0 1 1 1;cup = if water < 5 then 2 else if water < 50 then 1 else 2;");
        due("the least of all, though more is less for a while", z.enough(), 2);
    }

    private static void newsAndPairs() {
        LadderStreet x = told("shaft 12;person a 0 1 0 0;person b 2 1 0 0;person c 4 1 0 0;person d 7 1 0 0;person e 9 1 0 0;");
        on(26);
        due("n 0", x.news(0, 0), 1);
        due("n 1", x.news(0, 1), 3);
        due("n 2", x.news(0, 2), 7);
        due("n 12: 3 RUNGS are too far", x.news(0, 12), 7);
        due("from b", x.news(1, 1), 7);
        due("from e", x.news(4, 5), 24);
        due("n 13", x.news(0, 13), -1);
        due("n -1", x.news(0, -1), -1);
        due("person 5", x.news(5, 1), -1);
        on(27);
        due("d 0", x.pairs(0), 0);
        due("d 1", x.pairs(1), 0);
        due("d 2: a-b or b-c, and d-e", x.pairs(2), 2);
        due("d 11", x.pairs(11), 2);
        due("d 12", x.pairs(12), -1);
        due("d -1", x.pairs(-1), -1);
        LadderStreet y = told("shaft 12;person b 2 1 0 0;person a 0 1 0 0;person c 4 1 0 0;person d 6 1 0 0;");
        due("b must not take c", y.pairs(2), 2);
        LadderStreet v = told("shaft 12;person a 0 1 0 0;person b 5 1 0 0;person c 0 1 0 0;person d 5 1 0 0;");
        due("a-c and b-d", v.pairs(0), 2);
        LadderStreet z = told("shaft 12;person b 2 1 0 0;person a 0 1 0 0;person c 4 1 0 0;");
        due("each in one", z.pairs(2), 1);
        due("nobody", new LadderStreet().pairs(11), 0);
        LadderStreet w = told("shaft 12;person b 2 1 0 0;person a 2 1 0 0;");
        due("on one RUNG", w.pairs(0), 1);
    }

    private static void keptBack() {
        on(28);
        LadderStreet x = told("shaft 4;person a 0 4 0 0;person b 1 3 0 0;person c 1 3 0 0;person d 2 9 0 0;room = 9;");
        x.send(0, 3);
        due("a needs one of both gone", x.kept(1), 1);
        due("c, too", x.kept(2), 1);
        due("d is not in the way now", x.kept(3), 0);
        due("not oneself", x.kept(0), 0);
        x.send(1, 2);
        x.send(2, 0);
        due("b by d", x.kept(3), 2);
        due("c can go", x.kept(0), 0);
        due("no person", x.kept(4), -1);
        due("no person -1", x.kept(-1), -1);
        LadderStreet y = told("shaft 3;person a 0 4 0 0;person b 1 6 0 0;person c 1 6 0 0;room = 9;");
        y.send(0, 2);
        due("b gone is not enough", y.kept(1), 0);
        LadderStreet z = told("shaft 3;person a 0 4 0 0;person b 1 6 0 0;room = 9;breaks = if rung < 1 then 0 else if rung < 2 "
            + "then 100 else 0;");
        z.minutes(1);
        z.send(0, 2);
        due("the RUNG is not whole", z.kept(1), 0);
        LadderStreet w = told("shaft 3;person a 1 9 0 0;person b 2 9 0 0;");
        due("who has no goal is not kept", w.kept(0), 0);
    }

    private static void aheadInTime() {
        LadderStreet x = told("shaft 4;person a 0 4 5 0;person b 1 9 2 0;person c 3 4 0 0;quarrel = temper;"
            + "breaks = if minute < 5 then 0 else 100;");
        x.send(0, 2);
        x.send(2, 2);
        on(29);
        due("n 0", x.waits(0, 0), 0);
        due("n 0", x.waits(0, 1), 0);
        due("n 4 who", x.waits(4, 0), 0);
        due("n 4 how long", x.waits(4, 1), 4);
        due("n 6: all broke, no goals", x.waits(6, 1), 0);
        LadderStreet v = told("shaft 4;person a 3 4 5 0;person b 0 9 2 0;person c 1 9 0 0;person d 1 1 1 1;");
        v.send(1, 3);
        v.send(3, 2);
        due("b waits", v.waits(2, 0), 1);
        due("b waits", v.waits(2, 1), 2);
        due("n 61", x.waits(61, 0), -1);
        due("n -1", x.waits(-1, 0), -1);
        due("what 2", x.waits(1, 2), -1);
        due("nobody", new LadderStreet().waits(1, 1), -2);
        due("nobody, what 2", new LadderStreet().waits(1, 2), -1);
        on(30);
        due("n 0", x.crowd(0, 0), 1);
        due("n 0", x.crowd(0, 1), 9);
        due("n 61", x.crowd(61, 0), -1);
        due("what -1", x.crowd(1, -1), -1);
        due("what 2", x.crowd(1, 2), -1);
        due("nobody", new LadderStreet().crowd(60, 0), 0);
        due("nobody", new LadderStreet().crowd(60, 1), 0);
        LadderStreet y = told("shaft 3;person a 2 4 5 0;person b 1 4 2 0;breaks = if rung < 2 then 100 else 0;");
        due("alike: the first", y.crowd(0, 0), 1);
        due("BREAKS in CROWD", y.crowd(1, 0), 2);
        due("BREAKS in CROWD", y.crowd(1, 1), 8);
        on(34);
        due("where", x.then(2, 1, 0), 2);
        due("where, n 0", x.then(2, 0, 0), 3);
        due("waited", x.then(0, 3, 1), 3);
        due("QUARRELS more", x.then(0, 3, 2), 15);
        due("broken", x.then(0, 5, 3), 0);
        due("broken", x.then(0, 6, 3), 4);
        due("person not looked at", x.then(99, 3, 2), 15);
        due("person not looked at", x.then(-1, 6, 3), 4);
        due("person 3", x.then(3, 3, 0), -1);
        due("person -1", x.then(-1, 3, 1), -1);
        due("n 61", x.then(0, 61, 2), -1);
        due("n -1", x.then(0, -1, 2), -1);
        due("what 4", x.then(0, 1, 4), -1);
        due("what -1", x.then(0, 1, -1), -1);
        due("nothing happens", x.count(2), 0);
        x.minutes(3);
        due("more than now", x.then(0, 1, 2), 5);
        on(29);
        due("BREAKS in WAITS", x.waits(3, 1), 0);
    }

    private static void freeAndMeet() {
        LadderStreet x = told("shaft 5;person a 0 4 0 0;person b 3 5 0 0;person c 2 1 0 0;room = if rung < 1 then 5 else 9;"
            + "breaks = if rung < 4 then 0 else 100;");
        on(31);
        due("1", x.free(1), 31);
        due("2", x.free(2), 30);
        due("5", x.free(5), 2 + 4 + 16);
        due("9", x.free(9), 2 + 16);
        due("0", x.free(0), -1);
        due("10", x.free(10), -1);
        on(32);
        // Together 9: not on 0, 1 fits, 2 has c: 10, 3 fits as b's own width counts once.
        due("a and b", x.meet(0, 1, 0), 1);
        due("how many", x.meet(0, 1, 1), 2);
        due("a and c: 5 fits everywhere but on 3", x.meet(0, 2, 0), 1);
        due("a and c", x.meet(0, 2, 1), 1);
        due("c and a", x.meet(2, 0, 0), 1);
        due("one and the same", x.meet(1, 1, 0), -1);
        due("no person", x.meet(0, 3, 0), -1);
        due("no person -1", x.meet(-1, 0, 0), -1);
        due("what 2", x.meet(0, 1, 2), -1);
        x.minutes(1);
        on(31);
        due("whole RUNGS", x.free(9), 2);
        on(32);
        LadderStreet y = told("shaft 3;person a 0 4 0 0;person b 2 4 0 0;room = 7;");
        due("none", y.meet(0, 1, 0), -2);
        due("none", y.meet(0, 1, 1), -2);
        due("none, what 2", y.meet(0, 1, 2), -1);
        LadderStreet z = told("shaft 3;person a 0 4 0 0;person b 0 4 0 0;room = 8;");
        due("where they are", z.meet(0, 1, 0), 0);
        LadderStreet w = told("shaft 4;person a 0 4 0 0;person b 3 4 0 0;");
        due("of alike ones the first", w.meet(0, 1, 0), 1);
        due("0 RUNGS", z.meet(0, 1, 1), 0);
    }

    private static void mendingFirst() {
        on(33);
        String broken = "breaks = if minute < 1 then 100 else 0;";
        LadderStreet x = told("shaft 4;person a 3 4 0 0;" + broken);
        x.minutes(1);
        due("nobody has a goal", x.mendFirst(), -2);
        x.send(0, 2);
        due("RUNG 2", x.mendFirst(), 2);
        x.send(0, 1);
        due("one is not enough", x.mendFirst(), -2);
        x.mend(1);
        due("RUNG 2 again", x.mendFirst(), 2);
        due("nothing happens", x.count(4), 1 + 4 + 8);
        LadderStreet z = told("shaft 4;person a 1 4 0 0;breaks = if rung < 1 then 100 else 0;");
        z.minutes(1);
        z.send(0, 0);
        due("RUNG 0", z.mendFirst(), 0);
        // Each of two people has a broken RUNG ahead: one that is mended does not end all ERRANDS, the second does.
        LadderStreet w = told("shaft 6;person a 2 1 0 0;person b 3 1 0 0;breaks = if rung < 2 then 100 else if rung < 4 then "
            + "0 else 100;");
        w.minutes(1);
        w.send(0, 1);
        w.send(1, 4);
        due("one of both is not enough", w.mendFirst(), -2);
        w.mend(4);
        due("RUNG 1", w.mendFirst(), 1);
        LadderStreet y = told("shaft 4;person a 0 4 0 0;room = 9;breaks = if rung < 3 then 0 else 100;");
        y.minutes(1);
        y.send(0, 2);
        due("sooner than now", y.mendFirst(), -2);
        due("errands", y.errands(), 2);
    }

    private static void yearsBySeeds() {
        on(35);
        LadderStreet x = told("shaft 12;person a 0 4 0 0;breaks = 9;seed 40;");
        due("no goal: all", x.year(0, 20), 20);
        x.send(0, 11);
        due("not yet", x.year(0, 20), 0);
        for (int n = 1; n <= 12; n += 4) {
            int over = 0;
            for (int i = 0; i < 9; i++) {
                LadderStreet y = told("shaft 12;person a 0 4 0 0;breaks = 9;seed " + (40 + i) + ";");
                y.send(0, 11);
                y.minutes(n);
                over += y.count(5) == 0 ? 1 : 0;
            }
            due("year(" + n + ", 9)", x.year(n, 9), over);
        }
        due("nothing happens", x.count(2), 0);
        due("n 61", x.year(61, 1), -1);
        due("n -1", x.year(-1, 1), -1);
        due("s 0", x.year(1, 0), -1);
        due("s 21", x.year(1, 21), -1);
        due("s 1", x.year(0, 1), 0);
        due("s 1", x.year(60, 1), 1);
        LadderStreet z = told("shaft 2;person a 0 4 0 0;seed 9999;");
        z.send(0, 1);
        due("seeds behind 9999", z.year(1, 20), 20);
    }

    private static void tellingAndForgetting() {
        LadderStreet x = told("shaft 3;person a 0 1 1 1;");
        on(36);
        due("RUNG 3", x.tell(3, true), -1);
        due("RUNG -1", x.tell(-1, false), -1);
        due("nothing happens", x.count(10), 0);
        for (int i = 0; i < 20; i++) {
            due("tell " + i, x.tell(i % 3, i % 2 == 0), i);
        }
        due("20 are there", x.tell(0, true), -1);
        due("TOLD", x.count(10), 20);
        on(37);
        due("forget", x.forget(), 20);
        due("none", x.count(10), 0);
        due("forget none", x.forget(), 0);
        on(36);
        due("from 0 on again", x.tell(2, false), 0);
    }

    private static void trodAndAsk() {
        LadderStreet x = told("shaft 8;person a 0 1 0 0;person b 2 1 0 0;person c 7 1 0 0;person d 5 1 0 0;");
        on(38);
        due("nothing KNOWN: all", x.trod(0, 1), 15);
        due("how many", x.trod(0, 0), 4);
        x.send(0, 4);
        x.send(1, 6);
        x.send(2, 3);
        // a treads 1..4 down, b 3..6 down, c 6..3 up, d nothing.
        x.tell(4, true);
        x.tell(6, true);
        x.tell(6, false);
        due("k 0", x.trod(0, 1), 15);
        due("4 from above", x.trod(1, 1), 3);
        due("how many", x.trod(1, 0), 2);
        due("and 6", x.trod(2, 1), 2);
        due("and from below", x.trod(3, 1), 0);
        due("k 4", x.trod(4, 0), -1);
        due("k -1", x.trod(-1, 0), -1);
        due("what 2", x.trod(0, 2), -1);
        on(39);
        due("k 3: nobody is left", x.ask(3), -2);
        due("k 2: one is left", x.ask(2), 0);
        // a and b: 1 and 2 a alone, 3 and 4 both, 5 and 6 b alone.
        due("k 1", x.ask(1), 1);
        // Four: RUNG 1 a alone: 3; 3: a, b, c: 3; 5: b, c: 2.
        due("k 0", x.ask(0), 5);
        due("k 4", x.ask(4), -1);
        due("k -1", x.ask(-1), -1);
        on(38);
        x.forget();
        x.tell(0, true);
        x.tell(7, false);
        due("their own RUNG is not trod on", x.trod(1, 1), 0);
        x.forget();
        x.tell(4, true);
        due("the goal is", x.trod(1, 1), 3);
        x.minutes(2);
        due("as they go now: b is on 4", x.trod(1, 1), 1);
        x.forget();
        x.tell(x.person(2, 0), false);
        due("nor going up", x.trod(1, 1), 0);
        on(39);
        LadderStreet y = told("shaft 4;person a 0 1 0 0;person b 0 1 0 0;");
        due("nobody goes: the first", y.ask(0), 0);
        y.send(1, 3);
        due("b alone", y.ask(0), 1);
    }

    private static void holdAndRestore() {
        LadderStreet x = told("shaft 4;person a 0 1 0 3;breaks = if minute < 3 then 0 else 100;");
        on(40);
        due("SLOT 3", x.hold(3), false);
        due("SLOT -1", x.hold(-1), false);
        x.send(0, 2);
        x.minutes(1);
        due("held", x.hold(2), true);
        due("SLOTS", x.count(11), 1);
        due("held again", x.hold(2), true);
        due("SLOTS", x.count(11), 1);
        due("things can still be undone", x.count(9), 2);
        x.bucket(9);
        x.minutes(5);
        x.tell(1, true);
        x.hold(0);
        on(41);
        due("SLOT 1 holds nothing", x.restore(1), false);
        due("SLOT 3", x.restore(3), false);
        due("SLOT -1", x.restore(-1), false);
        due("things stay", x.count(9), 4);
        due("restored", x.restore(2), true);
        due("minute", x.count(2), 1);
        due("RUNG", x.person(0, 0), 1);
        due("goal", x.person(0, 4), 2);
        due("water", x.count(6), 0);
        due("whole", x.count(4), 0);
        due("nothing can be undone", x.undo(), false);
        due("TOLD stays", x.count(10), 1);
        x.minutes(3);
        due("it stays there", x.restore(2), true);
        due("minute", x.count(2), 1);
        due("the other one", x.restore(0), true);
        due("minute", x.count(2), 6);
        due("broken", x.count(4), 15);
    }

    private static void counting() {
        on(42);
        LadderStreet x = told("shaft 5;person a 1 4 0 3;person b 1 6 0 2;person c 4 3 9 9;quarrel = 7;seed 5;");
        x.send(0, 3);
        x.send(2, 1);
        x.feed(0, 0, 0, 0, 0);
        x.tell(0, true);
        x.hold(1);
        x.bucket(50);
        int[] due = {5, 3, 0, 0, 0, 5, 14, 0, 20, 3, 1, 1, 13, 2, 0, 13, 14};
        for (int what = 0; what < due.length; what++) {
            due("count(" + what + ")", x.count(what), due[what]);
        }
        due("count(17)", x.count(17), -1);
        due("count(-1)", x.count(-1), -1);
        // a goes to 2, c to 3; then both pass; then c finds b alone on 1, whose ROOM is 9: 6 + 3 fits.
        x.minutes(1);
        due("minute", x.count(2), 1);
        due("empty RUNGS", x.count(15), 1 + 16);
        LadderStreet z = told("shaft 3;person a 0 9 0 0;person b 1 9 0 0;person c 1 1 0 0;");
        due("just ROOM is not more", z.count(13), 2);
        due("RUNGS with nobody", z.count(15), 4);
        LadderStreet w = told("shaft 3;person a 0 9 0 0;person b 0 1 0 0;");
        due("more on RUNG 0", w.count(13), 1);
        LadderStreet y = told("shaft 3;person a 0 4 0 3;person b 1 6 0 2;person c 2 8 9 9;quarrel = 7;");
        y.send(0, 2);
        y.send(2, 0);
        y.minutes(3);
        due("QUARRELS", y.count(3), 42);
        due("waited together", y.count(14), 6);
    }
}
