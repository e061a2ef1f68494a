/** The sentences of ../shared/DOC.md, "Terms" III and IV and promises 14 to 42, that name a boundary case, in their order. */
public final class EdgesOfQuestions extends Check {
    private static final String FIVE =
        "person a 0 1 1 1;person b 1 2 1 2;person c 2 3 1 3;person d 3 4 1 4;person e 4 5 1 5;";

    public static void main(String[] args) {
        breaksInSomeAlone();
        inTheWay();
        errands();
        past();
        aloneAndReach();
        waysSeeRoomOfNow();
        wholeAgainInWays();
        above();
        driest();
        parts();
        least();
        homes();
        shareAndEnough();
        news();
        pairs();
        kept();
        waits();
        crowd();
        free();
        meet();
        mendFirst();
        inMinutes();
        year();
        tellAndForget();
        trod();
        ask();
        hold();
        restore();
        noneAheadOfNot();
        counts();
        allFive();
        fewerThanAhead(1);
        fewerThanAhead(2);
        finish();
    }

    private static void breaksInSomeAlone() {
        about("BREAKS in WAITS, CROWD, IN n MINUTES, YEAR alone");
        LadderStreet x = told("shaft 5;person a 0 9 0 0;person b 2 9 0 0;breaks = if minute < 1 then 0 else if rung < 3 then 100 "
            + "else 0;");
        x.send(0, 1);
        x.send(1, 4);
        due("ERRANDS", x.errands(), 2);
        due("ALONE", x.alone(1, 0), -2);
        due("ALONE", x.alone(1, 4), 2);
        due("REACH", x.reach(1), 2 + 4 + 8 + 16);
        due("PAST", x.past(0, 2, 1, 4), 2);
        due("PAST, later than the breaking", x.past(0, 2, 1, 3), 2);
        x.send(0, 2);
        due("a is still on the way", x.errands(), 2);
        due("IN 2: broken", x.then(0, 2, 3), 3);
        due("IN 2: where a fell to", x.then(0, 2, 0), 3);
        due("CROWD in 2", x.crowd(2, 0), 3);
        due("WAITS in 2", x.waits(2, 1), 0);
        due("YEAR in 2", x.year(2, 1), 1);
        LadderStreet y = told("shaft 3;person a 0 5 0 0;person b 1 5 0 0;breaks = if minute < 2 then 0 else 100;");
        y.send(0, 2);
        due("WAITS ahead of the breaking", y.waits(2, 1), 2);
        due("WAITS behind it", y.waits(3, 1), 0);
        due("ERRANDS never", y.errands(), -2);
        due("YEAR: nobody has a goal once all broke", y.year(3, 7), 7);
        due("YEAR: ahead of it", y.year(2, 7), 0);
        LadderStreet z = told("shaft 4;person a 2 1 0 0;breaks = if minute < 1 then (rung - 1) * (rung - 2) * 100 "
            + "else 100;");
        z.minutes(1);
        due("RUNGS 0 and 3 are broken", z.count(4), 9);
        z.send(0, 3);
        due("FIRST to MEND sees no BREAKS", z.mendFirst(), 3);
        due("so it is never over now", z.errands(), -2);
    }

    private static void inTheWay() {
        about("IN THE WAY: RUNGS strictly between, and that one");
        LadderStreet x = told("shaft 6;person a 0 4 0 0;person b 1 5 0 0;person c 3 6 0 0;person d 5 9 0 0;room = 9;"
            + "breaks = if rung < 2 then 0 else if rung < 3 then 100 else 0;");
        due("own RUNG", x.inTheWay(0, 0), 0);
        due("just ROOM", x.inTheWay(0, 1), 0);
        due("nobody there", x.inTheWay(0, 2), 0);
        due("that one, no ROOM", x.inTheWay(0, 3), 8);
        due("between alone", x.inTheWay(0, 4), 8);
        due("both", x.inTheWay(0, 5), 8 + 32);
        due("up: between and that one", x.inTheWay(3, 0), 1 + 2 + 8);
        due("up: that one is the nearest", x.inTheWay(3, 4), 0);
        due("own RUNG of d", x.inTheWay(3, 5), 0);
        x.minutes(1);
        due("not whole, that one", x.inTheWay(0, 2), 4);
        due("not whole, between", x.inTheWay(0, 4), 4 + 8);
        about("IN THE WAY: 0: that where they are");
        LadderStreet y = told("shaft 3;person a 1 4 0 0;person b 1 9 0 0;room = 0;");
        due("no ROOM where they are", y.inTheWay(0, 1), 0);
        due("none beside", y.inTheWay(0, 0), 1);
        due("none beside", y.inTheWay(0, 2), 4);
        about("IN THE WAY: NONE: no such ones");
        due("RUNG 3", y.inTheWay(0, 3), -1);
        due("RUNG -1", y.inTheWay(0, -1), -1);
        due("PERSON 2", y.inTheWay(2, 1), -1);
        due("PERSON -1", y.inTheWay(-1, 1), -1);
    }

    private static void errands() {
        about("ERRANDS: in how many MINUTES (0 .. 200) all have no goal; 0: nobody has a goal; -2: not");
        due("nobody is there", new LadderStreet().errands(), 0);
        LadderStreet x = told("shaft 12;person a 0 4 0 0;person b 11 4 0 0;room = if minute < 190 then 4 else 8;");
        due("nobody has a goal", x.errands(), 0);
        x.send(0, 11);
        due("b stands in the way until 190", x.errands(), 191);
        x.send(1, 1);
        // They stand on 5 and 6 by minute 5; from 190 on a has six RUNGS, b five.
        due("until they pass", x.errands(), 196);
        LadderStreet y = told("shaft 3;person a 0 4 0 0;room = if minute < 198 then 3 else 4;");
        y.send(0, 2);
        due("just 200", y.errands(), 200);
        y.minutes(1);
        due("199 from here", y.errands(), 199);
        LadderStreet z = told("shaft 3;person a 0 4 0 0;room = if minute < 199 then 3 else 4;");
        z.send(0, 2);
        due("201", z.errands(), -2);
        z.send(0, 1);
        due("200", z.errands(), 200);
        due("nothing happens", z.count(2) + z.count(3) + z.person(0, 5), 0);
    }

    private static void past() {
        about("PAST: the fewest minutes (0 .. 40); -2: not; NONE: no such ones, one and the same");
        LadderStreet x = told("shaft 3;person a 0 5 0 0;person b 2 4 0 0;room = 9;");
        due("0: both are there", x.past(0, 0, 1, 2), 0);
        due("1", x.past(0, 1, 1, 1), 1);
        due("just ROOM for both", x.past(0, 2, 1, 0), 2);
        due("one and the same", x.past(0, 0, 0, 0), -1);
        due("one and the same", x.past(1, 2, 1, 2), -1);
        LadderStreet y = told("shaft 3;person a 0 5 0 0;person b 2 5 0 0;room = 9;");
        due("no ROOM for both", y.past(0, 2, 1, 0), -2);
        due("no ROOM for both at the end", y.past(0, 1, 1, 1), -2);
        due("no others", x.past(0, 0, 2, 2), -1);
        due("no others", x.past(2, 0, 1, 2), -1);
        due("no others", x.past(0, 0, -1, 2), -1);
        due("no RUNG", x.past(0, 3, 1, 2), -1);
        due("no RUNG", x.past(0, 0, 1, 3), -1);
        due("no RUNG", x.past(0, -1, 1, 2), -1);
        due("no RUNG", x.past(0, 0, 1, -1), -1);
        about("PAST: the one, then the other one");
        LadderStreet z = told("shaft 4;person a 1 5 0 0;person b 2 5 0 0;room = 9;");
        due("a ahead of b, down", z.past(0, 2, 1, 3), 2);
        due("b ahead of a, down", z.past(1, 3, 0, 2), 1);
        due("a ahead of b, up", z.past(0, 0, 1, 1), 1);
        due("b ahead of a, up", z.past(1, 1, 0, 0), 2);
        about("PAST: or stays; nobody else moving");
        LadderStreet w = told("shaft 4;person a 0 2 0 0;person b 1 2 0 0;person c 2 9 0 0;room = if 0 < rung then 9 else 4;");
        due("a makes ROOM for b", w.past(0, 1, 1, 0), 1);
        due("c stays in the way", w.past(0, 3, 1, 0), -2);
        w.send(2, 3);
        due("even with a goal", w.past(0, 3, 1, 0), -2);
        about("PAST: who is where there is no ROOM may stay");
        LadderStreet v = told("shaft 2;person a 0 5 0 0;person b 0 5 0 0;room = 5;");
        due("both stay", v.past(0, 0, 1, 0), 0);
        due("one goes", v.past(0, 1, 1, 0), 1);
        due("the other goes", v.past(0, 0, 1, 1), 1);
        due("but does not come back to more than ROOM", v.past(0, 1, 1, 1), -2);
        about("PAST: as they CAN in each of the minutes");
        LadderStreet t = told("shaft 12;person a 0 1 0 0;person b 11 1 0 0;room = if rung < 11 then 1 else 2;");
        due("only the last RUNG has ROOM for two: 11 down, and b, off in the eleventh, 10 more", t.past(0, 11, 1, 0), 21);
        due("a, who goes first, has left 10 as b comes", t.past(0, 11, 1, 10), 11);
        due("b, if it goes first, can come a minute later", t.past(1, 10, 0, 11), 12);
    }

    private static void aloneAndReach() {
        about("ALONE: the fewest minutes to a RUNG, nobody else moving; -2: not; REACH: their own, too");
        LadderStreet x = told("shaft 12;person a 0 5 0 0;person b 11 4 0 0;person c 6 4 0 0;room = 9;");
        due("0", x.alone(0, 0), 0);
        due("11, with just ROOM on the way and there", x.alone(0, 11), 11);
        due("all", x.reach(0), 4095);
        x.send(2, 5);
        LadderStreet y = told("shaft 12;person a 0 6 0 0;person b 11 4 0 0;person c 6 4 0 0;room = 9;");
        due("as far as c", y.alone(0, 5), 5);
        due("c is in the way", y.alone(0, 6), -2);
        due("behind c", y.alone(0, 7), -2);
        due("RUNGS 0 to 5", y.reach(0), 63);
        y.send(2, 0);
        due("c with a goal stays, too", y.alone(0, 6), -2);
        LadderStreet z = told("shaft 3;person a 1 6 0 0;person b 1 6 0 0;room = 5;");
        due("own, ROOM or not", z.alone(0, 1), 0);
        due("own alone", z.reach(0), 2);
        LadderStreet w = told("shaft 3;person a 1 6 0 0;breaks = 100;");
        w.minutes(1);
        due("own, whole or not", w.alone(0, 1), 0);
        due("own alone", w.reach(0), 2);
        due("not whole", w.alone(0, 2), -2);
        w.mend(2);
        due("whole", w.alone(0, 2), 1);
        due("from a broken RUNG", w.reach(0), 6);
        about("ALONE: no such ones");
        due("RUNG 3", w.alone(0, 3), -1);
        due("RUNG -1", w.alone(0, -1), -1);
        due("PERSON 1", w.alone(1, 1), -1);
        due("PERSON 1", w.reach(1), -1);
        due("PERSON -1", w.reach(-1), -1);
        due("the only RUNG", told("shaft 1;person a 0 9 9 9;room = 0;").reach(0), 1);
    }

    private static void waysSeeRoomOfNow() {
        about("ALONE, REACH, PAST: nothing happens, so they go as they CAN now: ROOM that comes");
        LadderStreet x = new LadderStreet();
        x.feed(1936220518, 1948267067, 544236914, 1936682528, 1629499424);
        x.feed(824193056, 809181298, 1869573408, 1025534310, 544041326);
        x.feed(1970562336, 1008743984, 544499813, 1847603232, 1701606245);
        x.feed(540621600, 538976288, 538976288, 538976288, 538976288);
        due("shaft 2; person a 0 1 0 0; room = if minute < 60 then 0 else 9;", x.read(), 0);
        oneStepFrom60(x, 0);
        oneStepFrom60(x, 25);
        oneStepFrom60(x, 34);
        oneStepFrom60(x, 1);
        oneStepFrom60(x, 60);
        x.undo();
        x.undo();
        oneStepFrom60(x, 0);
        LadderStreet y = told("shaft 3;person a 0 5 0 0;person b 1 5 0 0;room = if minute < 40 then 9 else 10;");
        for (int minute = 0; minute < 40; minute++) {
            due("no ROOM for both, minute " + minute, y.past(0, 1, 1, 0), -2);
            due("b makes ROOM for a, minute " + minute, y.past(0, 1, 1, 2), 2);
            due("b is in the way, minute " + minute, y.alone(0, 2), -2);
            due("b is in the way, minute " + minute, y.reach(0), 1);
            y.minutes(1);
        }
        due("ROOM for both", y.past(0, 1, 1, 0), 1);
        due("a waits for nobody", y.past(0, 1, 1, 2), 1);
        due("past b", y.alone(0, 2), 2);
        due("past b", y.reach(0), 7);

        about("ALONE, REACH, PAST: nothing happens, so they go as they CAN now: ROOM that goes");
        LadderStreet z = told("shaft 12;person a 0 5 0 0;person b 11 4 0 0;room = if minute < 1 then 9 else 3;");
        due("all the way", z.alone(0, 11), 11);
        due("all the way", z.reach(0), 4095);
        due("all the way", z.past(0, 11, 1, 0), 11);
        z.hold(0);
        z.send(0, 11);
        due("but once MINUTES happen there is none", z.errands(), -2);
        due("and a stays on RUNG 1", z.then(0, 60, 0), 1);
        z.minutes(1);
        due("none", z.alone(0, 2), -2);
        due("back to none, too", z.alone(0, 0), -2);
        due("none", z.reach(0), 2);
        due("none", z.past(0, 2, 1, 11), -2);
        due("none for b", z.past(0, 1, 1, 10), -2);
        due("both there", z.past(0, 1, 1, 11), 0);
        z.restore(0);
        due("held ahead of that", z.alone(0, 11), 11);
        due("held ahead of that", z.past(1, 0, 0, 11), 11);

        about("ALONE, REACH, PAST: nothing happens, so they go as they CAN now: ROOM that comes and goes");
        LadderStreet w = told("shaft 4;person a 1 5 0 0;person b 3 4 0 0;room = if minute / 2 * 2 < minute then 9 else 4;");
        for (int minute = 0; minute < 8; minute++) {
            boolean odd = minute % 2 > 0;
            due("ALONE, minute " + minute, w.alone(0, 3), odd ? 2 : -2);
            due("REACH of a, minute " + minute, w.reach(0), odd ? 15 : 2);
            due("REACH of b, minute " + minute, w.reach(1), odd ? 15 : 12);
            due("PAST, minute " + minute, w.past(0, 3, 1, 0), odd ? 3 : -2);
            due("PAST, b alone, minute " + minute, w.past(0, 1, 1, 2), 1);
            w.minutes(1);
        }
    }

    /** n minutes go by: from minute 60 on there is one step to go from RUNG 0, ahead of that there is none. */
    private static void oneStepFrom60(LadderStreet x, int n) {
        int minute = x.minutes(n);
        boolean open = minute >= 60;
        due("can, minute " + minute, x.can(0, 1), open ? 1 : 0);
        due("alone, minute " + minute, x.alone(0, 1), open ? 1 : -2);
        due("reach, minute " + minute, x.reach(0), open ? 3 : 1);
    }

    private static void wholeAgainInWays() {
        about("ALONE, REACH, PAST, HOMES see RUNGS as they are at each call");
        LadderStreet x = told("shaft 4;person a 0 4 0 0;person b 1 4 0 0;breaks = if rung < 2 then 0 else if rung < 3 then 100 "
            + "else 0;");
        due("whole", x.alone(0, 3), 3);
        due("whole", x.reach(1), 15);
        due("whole", x.past(0, 0, 1, 3), 2);
        due("whole", x.homes(1, -1), 1);
        x.minutes(1);
        due("broken", x.alone(0, 3), -2);
        due("broken", x.reach(1), 3);
        due("broken", x.past(0, 0, 1, 3), -2);
        x.undo();
        due("undone", x.alone(0, 3), 3);
        due("undone", x.past(0, 0, 1, 3), 2);
        due("another text", read(x, "shaft 3;person a 0 4 0 0;person b 1 4 0 0;"), 0);
        due("no RUNG 3", x.reach(0), 7);
        due("no RUNG 3", x.alone(0, 3), -1);
        due("both can live there", x.homes(11, 1), 0);
    }

    private static void above() {
        about("above: PEOPLE on RUNGS above that of a PERSON");
        LadderStreet x = told("shaft 5;person a 2 1 0 0;person b 2 1 0 0;person c 1 1 0 0;person d 0 1 0 0;person e 4 1 0 0;");
        due("not those on one's own RUNG", x.above(0), 4 + 8);
        due("not oneself", x.above(1), 4 + 8);
        due("not those below", x.above(2), 8);
        due("nobody", x.above(3), 0);
        due("all but oneself", x.above(4), 15);
        due("PERSON 5", x.above(5), -1);
    }

    private static void driest() {
        about("driest: who took least from BUCKETS so far, of alike ones the first; -2: nobody is there");
        due("nobody", new LadderStreet().driest(0), -2);
        due("nobody", new LadderStreet().driest(1), -2);
        LadderStreet x = told("shaft 2;person a 1 1 0 3;person b 0 1 0 3;person c 1 1 0 3;");
        due("all alike", x.driest(0), 0);
        due("0", x.driest(1), 0);
        x.bucket(6);
        due("c had none", x.driest(0), 2);
        due("0", x.driest(1), 0);
        x.bucket(9);
        due("c again", x.driest(0), 2);
        due("3", x.driest(1), 3);
        x.bucket(4);
        due("a took 7", x.person(0, 6), 7);
        due("c took 3", x.driest(1), 3);
        x.undo();
        x.undo();
        x.undo();
        due("all alike again", x.driest(0), 0);
        LadderStreet y = told("shaft 2;person a 1 1 0 9;person b 0 1 0 3;person c 1 1 0 3;");
        y.bucket(99);
        due("b and c alike", y.driest(0), 1);
        due("what 2", y.driest(2), -1);
        due("what -1", y.driest(-1), -1);
    }

    private static void parts() {
        about("PARTS of a WIDTH on a RUNG: pairs of PEOPLE, one above and one below it");
        LadderStreet x = told("shaft 5;person a 1 1 0 0;person b 2 2 0 0;person c 3 3 0 0;room = 8;");
        due("3 and 2 there and 3: just ROOM", x.parts(3, 2), 0);
        due("1 more", x.parts(4, 2), 1);
        due("9", x.parts(9, 2), 1);
        due("nobody above", x.parts(9, 1), 0);
        due("nobody below", x.parts(9, 3), 0);
        due("nobody above the top", x.parts(9, 0), 0);
        due("nobody below the last", x.parts(9, 4), 0);
        LadderStreet y = told("shaft 3;person a 0 1 0 0;person b 0 4 0 0;person c 2 2 0 0;person d 2 3 0 0;person e 1 1 0 0;room = 9;");
        // The wider ones: a-c 2, a-d 3, b-c 4, b-d 4; e's 1 is there.
        due("4", y.parts(4, 1), 0);
        due("5", y.parts(5, 1), 2);
        due("6", y.parts(6, 1), 3);
        due("7", y.parts(7, 1), 4);
        about("PARTS: not whole: all pairs");
        LadderStreet z = told("shaft 3;person a 0 1 0 0;person b 0 4 0 0;person c 2 2 0 0;person d 2 3 0 0;room = 99;"
            + "breaks = if rung < 1 then 0 else if rung < 2 then 100 else 0;");
        due("whole", z.parts(1, 1), 0);
        z.minutes(1);
        due("broken", z.parts(1, 1), 4);
        about("PARTS: (width 1 .. 9); NONE: no such ones");
        due("width 0", z.parts(0, 1), -1);
        due("width 10", z.parts(10, 1), -1);
        due("RUNG 3", z.parts(1, 3), -1);
        due("RUNG -1", z.parts(1, -1), -1);
        due("nobody is there", new LadderStreet().parts(9, 7), 0);
    }

    private static void least() {
        about("LEAST: the whole RUNG on which one more of a WIDTH has ROOM and PARTS fewest, of alike ones the first; -2: none");
        LadderStreet x = told("shaft 4;person a 0 6 0 0;person b 3 2 0 0;room = 8;");
        due("just ROOM on 0", x.least(2, 0), 0);
        due("1 more: not on 0; 1 parts a and b", x.least(3, 0), 3);
        due("nobody is parted on 3", x.least(3, 1), 0);
        due("just ROOM on 3", x.least(6, 0), 3);
        due("1 more: 1 and 2 part alike", x.least(7, 0), 1);
        due("one pair", x.least(7, 1), 1);
        due("just ROOM on 1", x.least(8, 0), 1);
        due("none", x.least(9, 0), -2);
        due("none", x.least(9, 1), -2);
        LadderStreet y = told("shaft 3;breaks = if rung < 2 then 100 else 0;");
        due("the first", y.least(9, 0), 0);
        y.minutes(1);
        due("the whole one", y.least(9, 0), 2);
        y.mend(1);
        due("the first whole one", y.least(9, 0), 1);
        LadderStreet z = told("shaft 2;breaks = 100;");
        z.minutes(1);
        due("none is whole", z.least(1, 0), -2);
        about("LEAST: NONE: no such ones");
        due("width 0", z.least(0, 0), -1);
        due("width 10", z.least(10, 0), -1);
        due("what 2", z.least(1, 2), -1);
        due("what -1", z.least(1, -1), -1);
    }

    private static void homes() {
        about("HOMES: WIDTHS on each RUNG are no more than its ROOM, and each is no farther than d (0 .. 11)");
        LadderStreet x = told("shaft 12;person a 0 4 0 0;person b 0 5 0 0;person c 11 9 0 0;room = if rung < 1 then 9 else "
            + "if rung < 11 then 3 else 9;");
        due("d 0: just ROOM", x.homes(0, -1), 1);
        due("d 10", x.homes(10, 2), 11);
        due("d 11: a stays on the top", x.homes(11, 0), 0);
        due("d 11: b, too", x.homes(11, 1), 0);
        LadderStreet y = told("shaft 12;person a 0 5 0 0;person b 0 5 0 0;room = if rung < 1 then 9 else if rung < 11 then 3 else 9;");
        due("d 10: too near", y.homes(10, -1), 0);
        due("d 10: they can't", y.homes(10, 1), -2);
        due("d 11", y.homes(11, -1), 1);
        due("a has the lowest", y.homes(11, 0), 0);
        due("b has the last", y.homes(11, 1), 11);
        about("HOMES: of alike ones the lowest for the first PERSON, then the next one");
        LadderStreet z = told("shaft 3;person a 2 4 0 0;person b 2 4 0 0;person c 2 4 0 0;room = 4;");
        due("a", z.homes(2, 0), 0);
        due("b", z.homes(2, 1), 1);
        due("c", z.homes(2, 2), 2);
        due("not for all by 1", z.homes(1, -1), 0);
        LadderStreet w = told("shaft 3;person a 1 2 0 0;person b 0 9 0 0;room = 9;");
        due("a leaves the top to b if b must be there", w.homes(0, 0), 1);
        due("a has the top if b can go", w.homes(1, 0), 0);
        due("b goes", w.homes(1, 1), 1);
        about("HOMES: whole RUNGS");
        LadderStreet v = told("shaft 2;person a 0 5 0 0;person b 1 5 0 0;breaks = rung * 100;");
        due("both whole", v.homes(0, -1), 1);
        v.minutes(1);
        due("one alone", v.homes(11, -1), 0);
        due("b is on the broken one", v.homes(0, 0), -2);
        v.mend(1);
        due("mended", v.homes(0, 1), 1);
        about("HOMES: NONE: no such ones; -2 (looked at behind NONE)");
        due("d 12", v.homes(12, -1), -1);
        due("d -1", v.homes(-1, -1), -1);
        due("PERSON 2", v.homes(0, 2), -1);
        due("PERSON -2", v.homes(0, -2), -1);
        due("d 12, PERSON 2", v.homes(12, 2), -1);
        v.undo();
        due("d 12, though they can't", v.homes(12, 0), -1);
        due("PERSON 2, though they can't", v.homes(0, 2), -1);
        due("nobody: they can", new LadderStreet().homes(0, -1), 1);
        due("nobody, on broken RUNGS", nobodyOnBroken().homes(0, -1), 1);
    }

    private static LadderStreet nobodyOnBroken() {
        LadderStreet x = told("shaft 1;breaks = 100;");
        x.minutes(1);
        return x;
    }

    private static void shareAndEnough() {
        about("SHARE: (w 0 .. 99); NONE: no such ones");
        LadderStreet x = told("shaft 2;person a 1 1 0 9;person b 0 1 0 5;cup = thirst * 9;");
        due("0", x.share(0, 0), 0);
        due("45: b alone", x.share(0, 45), 0);
        due("46", x.share(0, 46), 1);
        due("99", x.share(0, 99), 54);
        due("99", x.share(1, 99), 45);
        due("100", x.share(0, 100), -1);
        due("-1", x.share(0, -1), -1);
        due("PERSON 2", x.share(2, 0), -1);
        due("PERSON -1", x.share(-1, 0), -1);
        x.bucket(99);
        due("what was taken so far is not in it", x.share(1, 99), 45);
        due("nothing happens", x.count(6), 99);
        about("ENOUGH: the least w (0 .. 99) of which each takes as much as of 99");
        due("99: all takes 126", x.enough(), 99);
        due("nobody", new LadderStreet().enough(), 0);
        due("nobody takes", told("person a 0 1 1 0;").enough(), 0);
        due("1", told("person a 0 1 1 1;").enough(), 1);
        due("9 and 9", told("person a 0 1 1 9;person b 7 1 1 9;").enough(), 18);
        due("98", told("person a 0 1 1 9;cup = 98;").enough(), 98);
        due("99", told("person a 0 1 1 9;cup = 99;").enough(), 99);
        due("water - 1", told("person a 0 1 1 9;cup = water - 1;").enough(), 99);
        // Of 5 a takes 5, b none; of 6 a takes 2, b 3: as of 99.
        due("each takes as much, not all together", told("person a 0 1 1 2;person b 1 1 1 3;cup = if rung < 1 then "
            + "2 + 3 * (5 / water) else 3;").enough(), 6);
        due("the least, though more may be less", told("person a 0 1 1 1;cup = if water < 9 then 2 else if water < 50 then 1 "
            + "else 2;").enough(), 2);
    }

    private static void news() {
        about("NEWS: n minutes (0 .. 12): in each minute all hear it who are within 2 RUNGS of one who knew it ahead");
        LadderStreet x = told("shaft 12;person a 0 1 0 0;person b 2 1 0 0;person c 4 1 0 0;person d 6 1 0 0;person e 8 1 0 0;");
        int[] known = {1, 3, 7, 15, 31, 31};
        for (int n = 0; n < known.length; n++) {
            due("n " + n, x.news(0, n), known[n]);
        }
        due("n 12", x.news(0, 12), 31);
        due("up as well", x.news(4, 2), 28);
        due("both ways", x.news(2, 1), 14);
        due("n 13", x.news(0, 13), -1);
        due("n -1", x.news(0, -1), -1);
        due("PERSON 5", x.news(5, 0), -1);
        due("PERSON -1", x.news(-1, 0), -1);
        LadderStreet y = told("shaft 12;person a 0 1 0 0;person b 3 1 0 0;person c 0 1 0 0;person d 1 1 0 0;");
        due("3 RUNGS are too far, but d hears it on the way", y.news(0, 1), 13);
        due("n 2", y.news(0, 2), 15);
        LadderStreet z = told("shaft 12;person a 0 1 0 0;person b 3 1 0 0;");
        due("nobody between", z.news(0, 12), 1);
        z.send(0, 1);
        due("nobody moving", z.news(0, 12), 1);
    }

    private static void pairs() {
        about("PAIRS within d RUNGS (0 .. 11): the most pairs, each in one at most, no farther from each other than d");
        LadderStreet x = told("shaft 12;person a 0 1 0 0;person b 11 1 0 0;");
        due("d 10", x.pairs(10), 0);
        due("d 11", x.pairs(11), 1);
        due("d 12", x.pairs(12), -1);
        due("d -1", x.pairs(-1), -1);
        due("one alone", told("person a 0 1 0 0;").pairs(11), 0);
        due("nobody", new LadderStreet().pairs(0), 0);
        LadderStreet y = told("shaft 12;person a 5 1 0 0;person b 4 1 0 0;person c 6 1 0 0;person d 5 1 0 0;person e 5 1 0 0;");
        due("d 0: a, d, e", y.pairs(0), 1);
        due("d 1: five are two pairs", y.pairs(1), 2);
        LadderStreet z = told("shaft 12;person a 5 1 0 0;person b 4 1 0 0;person c 6 1 0 0;person d 3 1 0 0;person e 0 1 0 0;");
        due("d 1: a is not for b", z.pairs(1), 2);
        due("d 3: e with d", z.pairs(3), 2);
        LadderStreet w = told("shaft 12;person a 5 1 0 0;person b 4 1 0 0;person c 6 1 0 0;person d 9 1 0 0;");
        due("a in one at most", w.pairs(1), 1);
        due("d 3: c with d", w.pairs(3), 2);
    }

    private static void kept() {
        about("KEPT: who has a goal elsewhere, CAN not go a RUNG towards it now, and could, were that one not there");
        LadderStreet x = told("shaft 3;person a 1 9 0 0;person b 0 3 0 0;person c 0 4 0 0;person d 2 5 0 0;person e 2 6 0 0;room = 11;");
        due("nobody has a goal", x.kept(0), 0);
        for (int person = 1; person < 5; person++) {
            x.send(person, 1);
        }
        due("all four", x.kept(0), 30);
        due("those who go keep nobody", x.kept(1), 0);
        x.send(1, -1);
        due("one less", x.kept(0), 28);
        x.send(0, 0);
        due("a by b or c: 9 + 7 is more than 11, by each 4 or 3 less, too", x.kept(1) + x.kept(2), 0);
        LadderStreet y = told("shaft 3;person a 0 4 0 0;person b 1 3 0 0;person c 1 4 0 0;room = 8;");
        y.send(0, 2);
        due("just ROOM without b", y.kept(1), 1);
        due("without c, too", y.kept(2), 1);
        due("by oneself nobody", y.kept(0), 0);
        LadderStreet z = told("shaft 3;person a 0 4 0 0;person b 1 3 0 0;person c 1 4 0 0;room = 7;");
        z.send(0, 2);
        due("without b it is 8 in 7", z.kept(1), 0);
        due("without c it is just 7", z.kept(2), 1);
        LadderStreet w = told("shaft 3;person a 0 4 0 0;person b 1 3 0 0;room = 7;");
        w.send(0, 2);
        due("a CAN go", w.kept(1), 0);
        LadderStreet v = told("shaft 3;person a 0 4 0 0;person b 1 3 0 0;room = 3;");
        v.send(0, 2);
        due("could not without b", v.kept(1), 0);
        LadderStreet u = told("shaft 4;person a 0 4 0 0;person b 2 9 0 0;");
        u.send(0, 3);
        due("a RUNG towards it is free still", u.kept(1), 0);
        u.minutes(1);
        due("now it isn't", u.kept(1), 1);
        due("PERSON 2", u.kept(2), -1);
        due("PERSON -1", u.kept(-1), -1);
    }

    private static void waits() {
        about("WAITS (n 0 .. 60): the PERSON who has waited longest then, of alike ones the first; -2: nobody is there");
        due("nobody", new LadderStreet().waits(0, 0), -2);
        due("nobody", new LadderStreet().waits(60, 1), -2);
        LadderStreet x = told("shaft 3;person a 1 9 0 0;person b 0 9 0 0;person c 2 9 0 0;");
        due("all alike", x.waits(60, 0), 0);
        due("0", x.waits(60, 1), 0);
        x.send(2, 0);
        due("c", x.waits(1, 0), 2);
        x.minutes(1);
        x.send(1, 2);
        due("n 0: c", x.waits(0, 0), 2);
        due("n 0: 1", x.waits(0, 1), 1);
        due("n 60: c", x.waits(60, 0), 2);
        due("n 60: 61", x.waits(60, 1), 61);
        x.send(2, -1);
        x.send(2, 0);
        due("b and c alike", x.waits(5, 0), 1);
        due("5", x.waits(5, 1), 5);
        due("n 61", x.waits(61, 0), -1);
        due("n -1", x.waits(-1, 0), -1);
        due("what 2", x.waits(0, 2), -1);
        due("what -1", x.waits(0, -1), -1);
        due("nothing happens", x.count(2), 1);
    }

    private static void crowd() {
        about("CROWD (n 0 .. 60): the RUNG with most WIDTHS on it, of alike ones the first; how much");
        due("nobody: the first", told("shaft 12;").crowd(60, 0), 0);
        due("nobody", told("shaft 12;").crowd(60, 1), 0);
        LadderStreet x = told("shaft 12;person a 11 4 0 0;person b 3 2 0 0;person c 3 2 0 0;");
        due("alike: the first", x.crowd(0, 0), 3);
        due("4", x.crowd(0, 1), 4);
        x.send(1, 11);
        due("n 1: a is alone", x.crowd(1, 0), 11);
        due("n 8: b is with a", x.crowd(8, 1), 6);
        due("n 60", x.crowd(60, 0), 11);
        due("n 61", x.crowd(61, 0), -1);
        due("n -1", x.crowd(-1, 0), -1);
        due("n -1, how much", x.crowd(-1, 1), -1);
        due("what 2", x.crowd(0, 2), -1);
        due("what -1", x.crowd(0, -1), -1);
    }

    private static void free() {
        about("FREE for a WIDTH (1 .. 9): whole RUNGS on which one more of it has ROOM");
        LadderStreet x = told("shaft 12;person a 1 4 0 0;person b 1 4 0 0;person c 11 1 0 0;room = rung;breaks = if rung < 10 then 0 "
            + "else if rung < 11 then 100 else 0;");
        due("1", x.free(1), 4095 - 1 - 2);
        due("9: 9 and 10, with ROOM for 10 more on 11", x.free(9), 512 + 1024 + 2048);
        LadderStreet y = told("shaft 12;person c 11 3 0 0;room = rung;");
        due("8: just ROOM on 8 and on 11", y.free(8), 256 + 512 + 1024 + 2048);
        due("9: not on 11", y.free(9), 512 + 1024);
        due("0", y.free(0), -1);
        due("10", y.free(10), -1);
        due("-1", y.free(-1), -1);
        x.minutes(1);
        due("10 is broken", x.free(9), 512 + 2048);
    }

    private static void meet() {
        about("MEET: on which both have ROOM together (others as they are)");
        LadderStreet x = told("shaft 5;person a 0 4 0 0;person b 4 4 0 0;person c 2 1 0 0;room = 8;");
        due("c is on 2: 1 and 3 are alike, the first", x.meet(0, 1, 0), 1);
        due("the farther one has 3", x.meet(0, 1, 1), 3);
        LadderStreet y = told("shaft 5;person a 0 4 0 0;person b 4 4 0 0;person c 2 1 0 0;room = 9;");
        due("just ROOM on 2", y.meet(0, 1, 0), 2);
        due("2", y.meet(0, 1, 1), 2);
        LadderStreet z = told("shaft 5;person a 0 4 0 0;person b 4 4 0 0;room = 7;");
        due("none", z.meet(0, 1, 0), -2);
        due("none", z.meet(0, 1, 1), -2);
        LadderStreet w = told("shaft 5;person a 0 4 0 0;person b 1 4 0 0;person c 2 9 0 0;room = if rung < 3 then 7 else 8;");
        due("whatever is in the way", w.meet(0, 1, 0), 3);
        due("3 for a", w.meet(0, 1, 1), 3);
        LadderStreet v = told("shaft 5;person a 3 4 0 0;person b 3 4 0 0;room = 8;");
        due("where both are", v.meet(0, 1, 0), 3);
        due("0", v.meet(0, 1, 1), 0);
        LadderStreet u = told("shaft 5;person a 3 4 0 0;person b 3 4 0 0;room = if rung < 4 then 7 else 8;");
        due("not where both are", u.meet(0, 1, 0), 4);
        LadderStreet t = told("shaft 12;person a 0 9 0 0;person b 0 9 0 0;room = if rung < 11 then 17 else 18;");
        due("the last RUNG", t.meet(1, 0, 0), 11);
        due("11", t.meet(1, 0, 1), 11);
        LadderStreet s = told("shaft 5;person a 0 4 0 0;person b 4 4 0 0;room = if rung < 1 then 8 else if rung < 4 then 7 else 8;");
        due("own RUNGS of both are alike: the first", s.meet(0, 1, 0), 0);
        LadderStreet r = told("shaft 5;person a 0 4 0 0;person b 4 4 0 0;room = if rung < 5 then 7 else 99;");
        due("ROOM below the last RUNG is none", r.meet(0, 1, 0), -2);
        LadderStreet q = told("shaft 5;person a 0 4 0 0;person b 4 4 0 0;room = if rung < 0 then 99 else 7;");
        due("ROOM above the top is none", q.meet(0, 1, 0), -2);
        about("MEET: NONE: no such ones, one and the same");
        due("one and the same", z.meet(0, 0, 0), -1);
        due("PERSON 2", z.meet(0, 2, 0), -1);
        due("PERSON 2", z.meet(2, 0, 0), -1);
        due("PERSON -1", z.meet(-1, 0, 0), -1);
        due("what 2", z.meet(0, 1, 2), -1);
        due("what -1", z.meet(0, 1, -1), -1);
    }

    private static void mendFirst() {
        about("FIRST to MEND: ERRANDS over soonest, sooner than now; of alike ones the first; -2: none");
        due("nothing is broken", told("person a 0 1 1 1;").mendFirst(), -2);
        due("nobody", new LadderStreet().mendFirst(), -2);
        // All break in minute 0; RUNG 3 is mended, and a sent up and b down, both kept by broken RUNGS.
        LadderStreet x = told("shaft 7;person a 3 4 0 0;person b 3 4 0 0;breaks = if minute < 1 then 100 else 0;");
        x.minutes(1);
        due("no goal: not sooner than 0", x.mendFirst(), -2);
        x.send(0, 2);
        due("the one it is", x.mendFirst(), 2);
        x.send(1, 4);
        due("one of two is not enough", x.mendFirst(), -2);
        x.mend(4);
        due("the other one is", x.mendFirst(), 2);
        x.mend(2);
        due("nothing lets them be sooner than 1", x.mendFirst(), -2);
        due("1", x.errands(), 1);
        // a waits for ROOM on the top until minute 4, whatever is mended beside the top.
        LadderStreet y = told("shaft 3;person a 1 4 0 0;room = if rung < 1 then minute else 9;breaks = if minute < 1 then 100 else 0;");
        y.minutes(1);
        y.mend(1);
        y.send(0, 0);
        due("the top, though late", y.mendFirst(), 0);
        y.mend(0);
        due("ROOM from minute 4 on", y.errands(), 4);
        due("2 is no help", y.mendFirst(), -2);
        about("FIRST to MEND: sooner than now");
        // b keeps a from RUNG 1 until minute 9; sent down, b can't go, as 2, 3 and 4 are broken.
        LadderStreet z = told("shaft 5;person a 0 5 0 0;person b 1 5 0 0;room = if minute < 9 then 5 else 10;"
            + "breaks = if minute < 1 then (rung - 1) * rung * 100 else 0;");
        z.minutes(1);
        due("2, 3 and 4 are broken", z.count(4), 4 + 8 + 16);
        z.send(0, 1);
        due("now: eight MINUTES of waiting, and one", z.errands(), 9);
        due("b has no goal: none is of use", z.mendFirst(), -2);
        z.send(1, 2);
        due("now: never", z.errands(), -2);
        due("2 lets both go", z.mendFirst(), 2);
        due("nothing happens", z.count(4), 4 + 8 + 16);
        z.send(1, 3);
        due("2 and 3 are two", z.mendFirst(), -2);
        z.mend(3);
        due("2 is left", z.mendFirst(), 2);
        z.mend(2);
        due("in two MINUTES, a behind b", z.errands(), 2);
    }

    private static void inMinutes() {
        about("IN n MINUTES (0 .. 60): where a PERSON is, waited; QUARRELS more; RUNGS broken");
        LadderStreet x = told("shaft 12;person a 0 9 1 1;person b 5 9 1 1;quarrel = 3;breaks = if minute < 60 then 0 else 100;");
        x.send(0, 11);
        due("n 0: where", x.then(0, 0, 0), 0);
        due("n 0: waited", x.then(0, 0, 1), 0);
        due("n 0: QUARRELS", x.then(0, 0, 2), 0);
        due("n 0: broken", x.then(0, 0, 3), 0);
        due("n 60: where", x.then(0, 60, 0), 4);
        due("n 60: waited", x.then(0, 60, 1), 56);
        due("n 60: QUARRELS", x.then(0, 60, 2), 168);
        due("n 60: broken", x.then(0, 60, 3), 0);
        x.minutes(10);
        due("QUARRELS more than now", x.then(0, 1, 2), 3);
        due("not the MINUTES ahead of now", x.then(0, 50, 3), 0);
        due("all are broken", x.then(0, 51, 3), 12);
        due("no goal, waited 0", x.then(0, 51, 1), 0);
        due("RUNGS broken now count", brokenNow().then(0, 0, 3), 2);
        about("then: PERSON not looked at for 2 and 3; NONE: no such ones");
        for (int person : new int[] {2, -1, 99, Integer.MAX_VALUE, Integer.MIN_VALUE}) {
            due("QUARRELS", x.then(person, 2, 2), 6);
            due("broken", x.then(person, 51, 3), 12);
            due("where", x.then(person, 2, 0), -1);
            due("waited", x.then(person, 2, 1), -1);
        }
        due("n 61", x.then(0, 61, 0), -1);
        due("n -1", x.then(0, -1, 0), -1);
        due("n 61", x.then(-1, 61, 3), -1);
        due("n -1", x.then(-1, -1, 2), -1);
        due("what 4", x.then(0, 0, 4), -1);
        due("what -1", x.then(0, 0, -1), -1);
        due("nobody", new LadderStreet().then(0, 60, 2), 0);
        due("nobody", new LadderStreet().then(0, 60, 0), -1);
    }

    private static LadderStreet brokenNow() {
        LadderStreet x = told("shaft 2;person a 0 1 1 1;breaks = 100;");
        x.minutes(1);
        return x;
    }

    private static void year() {
        about("YEAR by s SEEDS (1 .. 20) from the text's SEED on: ERRANDS over in n MINUTES (0 .. 60)");
        due("nobody", new LadderStreet().year(0, 1), 1);
        due("nobody", new LadderStreet().year(60, 20), 20);
        LadderStreet x = told("shaft 12;person a 0 1 1 1;seed 9999;");
        due("no goal", x.year(0, 20), 20);
        x.send(0, 1);
        due("n 0: not", x.year(0, 20), 0);
        due("n 1", x.year(1, 20), 20);
        due("n 1, s 1", x.year(1, 1), 1);
        x.send(0, 11);
        due("n 10: not", x.year(10, 20), 0);
        due("n 11", x.year(11, 20), 20);
        due("n 60", x.year(60, 20), 20);
        due("n 61", x.year(61, 1), -1);
        due("n -1", x.year(-1, 1), -1);
        due("s 0", x.year(1, 0), -1);
        due("s 21", x.year(1, 21), -1);
        due("s -1", x.year(1, -1), -1);
        due("nothing happens", x.count(2), 0);
        for (int seed : new int[] {0, 500, 9980}) {
            LadderStreet y = told("shaft 2;person a 0 1 1 1;breaks = 50;room = 0;seed " + seed + ";");
            y.send(0, 1);
            int over = 0;
            for (int i = 1; i <= 20; i++) {
                LadderStreet z = told("shaft 2;person a 0 1 1 1;breaks = 50;room = 0;seed " + (seed + i - 1) + ";");
                z.send(0, 1);
                z.minutes(1);
                over += z.count(5) == 0 ? 1 : 0;
                due("s " + i + " from " + seed, y.year(1, i), over);
            }
        }
    }

    private static void tellAndForget() {
        about("TOLD: 20 at most, numbered from 0 on; NONE, and nothing happens: 20 are there, no such RUNG");
        LadderStreet x = told("shaft 12;person a 0 1 1 1;");
        x.send(0, 11);
        due("RUNG 12", x.tell(12, true), -1);
        due("RUNG -1", x.tell(-1, false), -1);
        due("the greatest int", x.tell(Integer.MAX_VALUE, true), -1);
        due("the least int", x.tell(Integer.MIN_VALUE, true), -1);
        due("nothing happens", x.count(10), 0);
        for (int i = 0; i < 20; i++) {
            due("its number", x.tell(1 + i % 11, true), i);
        }
        due("a is meant", x.trod(20, 1), 1);
        due("20 are there", x.tell(0, false), -1);
        due("20 are there", x.tell(11, true), -1);
        due("20 are there, no such RUNG", x.tell(12, true), -1);
        due("nothing happens", x.count(10), 20);
        due("nothing happens", x.trod(20, 1), 1);
        about("forget: all that was TOLD is forgotten: how many there were");
        due("20", x.forget(), 20);
        due("none", x.forget(), 0);
        due("none is KNOWN", x.trod(1, 0), -1);
        due("from 0 on again", x.tell(11, true), 0);
        due("one", x.forget(), 1);
        due("the same may be told again", x.tell(11, true) + x.tell(11, true) * 10, 10);
        about("what is TOLD is no thing done");
        due("things", x.count(9), 1);
        x.undo();
        due("stays TOLD", x.count(10), 2);
    }

    private static void trod() {
        about("KNOWN by k: the first k; NONE: no such ones");
        LadderStreet x = told("shaft 6;person a 0 1 0 0;person b 1 1 0 0;person c 5 1 0 0;person d 2 1 0 0;");
        due("k 0, nothing TOLD", x.trod(0, 0), 4);
        due("k 1, nothing TOLD", x.trod(1, 0), -1);
        x.send(0, 3);
        x.send(1, 5);
        x.send(2, 0);
        due("told", x.tell(2, true), 0);
        due("told", x.tell(4, true), 1);
        due("told", x.tell(4, false), 2);
        due("k 0: all", x.trod(0, 1), 15);
        due("k 0: how many", x.trod(0, 0), 4);
        due("k 1: a, b", x.trod(1, 1), 3);
        due("k 2: b", x.trod(2, 1), 2);
        due("k 2: one", x.trod(2, 0), 1);
        due("k 3: nobody", x.trod(3, 1), 0);
        due("k 3: none", x.trod(3, 0), 0);
        due("k 4", x.trod(4, 0), -1);
        due("k -1", x.trod(-1, 0), -1);
        due("what 2", x.trod(0, 2), -1);
        due("what -1", x.trod(0, -1), -1);
        about("TROD: all RUNGS behind the one on which they are, the goal too; none: no RUNG");
        int[] fromAbove = new int[6];
        int[] fromBelow = new int[6];
        for (int rung = 0; rung < 6; rung++) {
            x.forget();
            x.tell(rung, true);
            fromAbove[rung] = x.trod(1, 1);
            x.forget();
            x.tell(rung, false);
            fromBelow[rung] = x.trod(1, 1);
        }
        // a from 0 to 3, b from 1 to 5, c from 5 up to 0.
        int[] down = {0, 1, 3, 3, 2, 2};
        int[] up = {4, 4, 4, 4, 4, 0};
        for (int rung = 0; rung < 6; rung++) {
            due("from above on " + rung, fromAbove[rung], down[rung]);
            due("from below on " + rung, fromBelow[rung], up[rung]);
        }
        about("TROD: who go to their goal now");
        x.forget();
        x.tell(3, true);
        x.minutes(2);
        due("a is on 2, b on 3", x.trod(1, 1), 1);
        x.minutes(1);
        due("a is on 3", x.trod(1, 1), 0);
        due("nobody is there: none", new LadderStreet().trod(0, 0), 0);
    }

    private static void ask() {
        about("ASK: the RUNG of which, once it is told whether it was passed, fewest are left, at worst; alike: the first");
        due("nobody is there", new LadderStreet().ask(0), -2);
        LadderStreet x = told("shaft 6;person a 0 1 0 0;person b 0 1 0 0;person c 0 1 0 0;person d 0 1 0 0;person e 0 1 0 0;");
        due("nobody has a goal: all are alike", x.ask(0), 0);
        for (int person = 0; person < 5; person++) {
            x.send(person, person + 1);
        }
        // 1 is passed by five, 2 by four, 3 by three, 4 by two.
        due("3: three or two", x.ask(0), 3);
        x.tell(2, true);
        due("b .. e: 4: two or two", x.ask(1), 4);
        x.tell(4, true);
        due("d, e: 5: one or one", x.ask(2), 5);
        x.tell(5, true);
        due("e alone: the first", x.ask(3), 0);
        x.tell(1, false);
        due("nobody is left", x.ask(4), -2);
        due("k 5", x.ask(5), -1);
        due("k -1", x.ask(-1), -1);
        due("k 0 still", x.ask(0), 3);
        LadderStreet y = told("shaft 6;person a 5 1 0 0;person b 3 1 0 0;");
        y.send(0, 1);
        y.send(1, 5);
        // a passes 4 .. 1, b 4 and 5: both pass 4, whichever way.
        due("the first of 1, 2, 3 and 5", y.ask(0), 1);
        y.send(0, 4);
        due("4 is passed by both, 5 by b alone", y.ask(0), 5);
        LadderStreet z = told("shaft 6;person a 0 1 0 0;person b 0 1 0 0;person c 0 1 0 0;person d 0 1 0 0;person e 2 1 0 0;");
        z.send(4, 4);
        due("one of five: 3 leaves four at worst, all others five", z.ask(0), 3);
    }

    private static void hold() {
        about("hold: (not what is TOLD, nor the tape) in a SLOT (0 .. 2): true; false: no such one");
        LadderStreet x = told("shaft 2;person a 0 1 1 1;");
        for (int slot : new int[] {-1, 3, 4, 31, 32, 33, Integer.MAX_VALUE, Integer.MIN_VALUE}) {
            due("no SLOT " + slot, x.hold(slot), false);
        }
        due("none holds anything", x.count(11), 0);
        due("0", x.hold(0), true);
        due("1", x.hold(1), true);
        due("2", x.hold(2), true);
        due("3", x.count(11), 3);
        due("again", x.hold(2), true);
        due("3", x.count(11), 3);
        due("no thing done", x.undo(), false);
        x.feed(0, 0, 0, 0, 0);
        x.tell(1, true);
        x.restore(0);
        due("the tape stays", x.count(8), 20);
        due("TOLD stays", x.count(10), 1);
        x.back(20);
        x.forget();
        x.restore(1);
        due("the tape stays", x.count(8), 0);
        due("TOLD stays", x.count(10), 0);
    }

    private static void restore() {
        about("restore: false, and nothing happens: no such one, nothing is held");
        LadderStreet x = told("shaft 3;person a 0 9 1 1;person b 1 9 9 9;quarrel = 2;breaks = if minute < 5 then 0 else 100;");
        x.send(0, 2);
        x.minutes(2);
        x.hold(1);
        String held = seen(x, 9);
        x.bucket(9);
        String before = seen(x);
        for (int slot : new int[] {-1, 0, 2, 3, 32, 33, Integer.MAX_VALUE, Integer.MIN_VALUE}) {
            due("SLOT " + slot, x.restore(slot), false);
        }
        due("what is seen", seen(x), before);
        about("restore: it goes on from what a SLOT holds (that stays there; nothing can be undone then)");
        x.minutes(9);
        x.mend(0);
        due("restored", x.restore(1), true);
        due("what is seen, but for what can be undone", seen(x, 9), held);
        due("nothing can be undone", x.undo(), false);
        x.minutes(1);
        due("a new thing can", x.undo(), true);
        x.minutes(30);
        due("it stays there", x.restore(1), true);
        due("minute", x.count(2), 2);
        x.minutes(1);
        due("held anew", x.hold(1), true);
        x.minutes(1);
        due("restored", x.restore(1), true);
        due("minute", x.count(2), 3);
        due("goes on by the same LAWS", x.then(0, 3, 3), 3);
    }

    private static void noneAheadOfNot() {
        about("Where NONE and -2 could both be told, it is NONE, if it is not told otherwise");
        LadderStreet x = new LadderStreet();
        due("driest", x.driest(2), -1);
        due("driest", x.driest(-1), -1);
        due("waits, what", x.waits(0, 2), -1);
        due("waits, n", x.waits(61, 0), -1);
        due("waits, n", x.waits(-1, 1), -1);
        due("ask", x.ask(1), -1);
        due("ask", x.ask(-1), -1);
        due("homes", x.homes(0, 0), -1);
        LadderStreet y = told("shaft 2;person a 0 9 1 1;person b 1 9 1 1;room = 0;");
        due("least, what", y.least(1, 2), -1);
        due("least, WIDTH", y.least(10, 0), -1);
        due("least", y.least(1, 0), -2);
        due("meet, what", y.meet(0, 1, 2), -1);
        due("meet, one and the same", y.meet(1, 1, 0), -1);
        due("meet", y.meet(0, 1, 0), -2);
        due("past, one and the same", y.past(0, 1, 0, 1), -1);
        due("past, no RUNG", y.past(0, 2, 1, 0), -1);
        due("past", y.past(0, 1, 1, 0), -2);
        due("alone, no RUNG", y.alone(0, 2), -1);
        due("alone", y.alone(0, 1), -2);
        due("homes, no PERSON", y.homes(1, 2), -1);
        due("homes, no d", y.homes(12, 0), -1);
        due("homes", y.homes(1, 0), -2);
    }

    private static void counts() {
        about("count: 13 RUNGS on which WIDTHS are more than their ROOM; 15 RUNGS with nobody on them");
        LadderStreet x = told("shaft 12;person a 0 4 1 1;person b 5 4 1 2;person c 5 5 1 3;person d 11 4 1 4;room = if rung < 5 then 3 "
            + "else if rung < 6 then 9 else 0;");
        due("4 in 3, 9 in 9, 4 in 0", x.count(13), 1 + 2048);
        due("nobody", x.count(15), 4095 - 1 - 32 - 2048);
        due("WIDTHS", x.count(12), 17);
        due("THIRST", x.count(16), 10);
        due("no ROOM and nobody is not more", told("shaft 1;room = 0;").count(13), 0);
        about("count: NONE for others");
        for (int what : new int[] {17, 18, -1, -2, Integer.MAX_VALUE, Integer.MIN_VALUE}) {
            due("what " + what, x.count(what), -1);
        }
    }

    /** What is asked of the last of five PEOPLE. */
    private static void allFive() {
        about("PEOPLE, 5 at most");
        LadderStreet x = told("shaft 5;" + FIVE);
        due("ERRANDS", x.errands(), 0);
        due("goals", x.count(5), 0);
        due("above", x.above(4), 15);
        due("driest", x.driest(0), 0);
        x.bucket(99);
        due("driest took 1", x.driest(1), 1);
        due("WAITS", x.waits(3, 0), 0);
        due("PARTS", x.parts(9, 2), 4);
        due("WIDTHS", x.count(12), 15);
        due("THIRST", x.count(16), 15);
        due("ENOUGH", x.enough(), 15);
        due("NEWS", x.news(4, 2), 31);
        due("PAIRS", x.pairs(1), 2);
        due("HOMES", x.homes(0, 4), 4);
        for (int person = 0; person < 5; person++) {
            due("goal", x.send(person, 4 - person), person != 2);
        }
        due("goals", x.count(5), 27);
        due("TROD", x.trod(0, 1), 31);
        // In minute 1 a comes to 1, b and d to c on 2, which is full then, e to 3; a waits once.
        due("ERRANDS", x.errands(), 5);
        x.minutes(1);
        due("a is kept from 2 by each of three", x.kept(1) + x.kept(2) + x.kept(3), 3);
        due("a on 1", x.rung(1, 2), 1);
        due("b, c, d on 2", x.rung(2, 2), 14);
        due("e on 3", x.rung(3, 2), 16);
        due("YEAR in 3", x.year(3, 20), 0);
        due("YEAR in 4", x.year(4, 20), 20);
        LadderStreet y = told("shaft 5;" + FIVE.replace("b 1 2", "b 2 9") + "room = 8;");
        y.send(0, 3);
        due("b keeps nobody, though there is no ROOM beside b", y.kept(1), 0);
    }

    /** A text with two PEOPLE behind one with five, the third of whom was on a RUNG. */
    private static void fewerThanAhead(int rung) {
        about("a text in place of the one ahead: nothing is left of PEOPLE who are no more");
        LadderStreet x = told("shaft 12;person a 0 9 9 9;person b 1 9 9 9;person c " + rung
            + " 9 9 9;person d 2 9 9 9;person e 2 9 9 9;"
            + "breaks = if minute < 3 then 0 else 100;");
        for (int person = 0; person < 5; person++) {
            x.send(person, 11);
        }
        x.bucket(99);
        x.minutes(4);
        due("read", read(x, "shaft 3;person a 0 5 1 1;person b 2 4 1 1;"), 0);
        LadderStreet y = told("shaft 3;person a 0 5 1 1;person b 2 4 1 1;");
        due("what is seen", seen(x), seen(y));
        due("WIDTHS on 1", x.rung(1, 1), 0);
        due("WIDTHS on 2", x.rung(2, 1), 4);
        due("PEOPLE on 2", x.rung(2, 2), 2);
        due("just ROOM", x.free(5), 6);
        due("PARTS", x.parts(4, 1), 0);
        due("PARTS", x.parts(5, 1), 1);
        due("HOMES", x.homes(2, -1), 1);
        due("PAIRS", x.pairs(2), 1);
        due("NEWS", x.news(0, 12), 3);
        due("CROWD", x.crowd(3, 1), 5);
        due("ENOUGH", x.enough(), 2);
        due("MEET", x.meet(0, 1, 0), 1);
        due("driest", x.driest(0), 0);
        due("all", x.bucket(99), 97);
        due("WIDTHS", x.count(12), 9);
        due("THIRST", x.count(16), 2);
        due("ERRANDS", x.errands(), 0);
        due("HOMES for few", read(x, "shaft 1;person a 0 9 1 1;"), 0);
        due("HOMES", x.homes(0, 0), 0);
    }
}
