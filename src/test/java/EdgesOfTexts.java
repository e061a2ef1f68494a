import java.util.Arrays;
import java.util.List;

/** The sentences of ../shared/DOC.md, "Terms" I and promises 2 to 5, that name a boundary case, in their order. */
public final class EdgesOfTexts extends Check {
    private static final String[] WORDS = {"shaft", "person", "room", "quarrel", "cup", "breaks", "seed", "if", "then",
        "else", "rung", "deep", "minute", "width", "temper", "thirst", "waited", "here", "water"};
    private static final List<String> TELLS = Arrays.asList("shaft", "person", "room", "quarrel", "cup", "breaks", "seed");
    private static final List<String> VARS = Arrays.asList("rung", "deep", "minute", "width", "temper", "thirst", "waited",
        "here", "water");
    private static final String FIVE =
        "person a 0 1 1 1;person b 0 1 1 1;person c 0 1 1 1;person d 0 1 1 1;person e 0 1 1 1;";

    public static void main(String[] args) {
        bytesOfAText();
        blanks();
        names();
        ints();
        signs();
        longestTokens();
        grammar();
        shaft();
        people();
        numbersOfAPerson();
        laws();
        seed();
        firstFault();
        tooManyTokens();
        sixthPerson();
        fifthIf();
        seventhBracket();
        twice();
        wrong();
        noSuchRung();
        faultChangesNothing();
        textInPlaceOfAnother();
        faultsOneBehindTheOther();
        feeding();
        goingBack();
        finish();
    }

    private static void bytesOfAText() {
        about("A TEXT has 2,000 bytes at most");
        LadderStreet x = new LadderStreet();
        due("read", read(x, times(1992, " ") + "shaft 3;"), 0);
        due("RUNGS", x.count(0), 3);
        fault("shaft 3;" + times(1991, " ") + "!", 1, 1999);
        fault(times(1993, " ") + "shaft 3", 1, 2000);
        fault("person a 9 1 1 1;" + times(1983, "\n"), 6, 2000);
        fault(times(1992, "\t") + "seed ab;", 1, 1997);
        fault(times(1999, "a"), 1, 0);
        fault(times(2000, "7"), 1, 0);
        fault(times(2000, "("), 1, 0);
    }

    /** Each byte behind "shaft 3", ahead of a NAME, and alone. */
    private static void blanks() {
        about("blanks (9, 10, 13, 32) between or not");
        for (int sign = 0; sign < 256; sign++) {
            boolean blank = sign == 9 || sign == 10 || sign == 13 || sign == 32;
            boolean digit = sign >= '0' && sign <= '9';
            boolean letter = sign >= 'a' && sign <= 'z';
            String c = String.valueOf((char) sign);
            if (blank) {
                fault("shaft 3" + c + ";", 0, -1);
                fault(c + c, 0, -1);
            } else if (digit) {
                fault("shaft 3" + c + ";", 5, 6);
                fault(c, 1, 0);
            } else if (sign == ';') {
                fault("shaft 3" + c + ";", 1, 8);
                fault(c, 1, 0);
            } else {
                fault("shaft 3" + c + ";", 1, 7);
                fault(c, 1, 0);
            }
            if (letter) {
                fault("person " + c + " 0 1 1 1;", 0, -1);
            } else {
                fault("person " + c + " 0 1 1 1;", 1, blank ? 9 : 7);
            }
        }
        fault("shaft3;person a 0 1 1 1;room=9;seed5;", 0, -1);
        fault("\r\n\t shaft\r\n\t 3\r\n\t ;\r\n\t ", 0, -1);
        fault("person a0 1 1 1;", 0, -1);
        fault("persona 0 1 1 1;", 1, 0);
        fault("room=if1<2then3else4;", 0, -1);
        fault("room=if rung<2then 3else 4;", 0, -1);
        fault("room=ifrung<2then 3else 4;", 1, 5);
        fault("room=3elserung;", 1, 6);
    }

    private static void names() {
        about("NAMES: letters a .. z, 8 at most, none of the words in quotes");
        fault("person a 0 1 1 1;", 0, -1);
        fault("person z 0 1 1 1;", 0, -1);
        fault("person azazazaz 0 1 1 1;", 0, -1);
        fault("person azazazaza 0 1 1 1;", 1, 7);
        for (String word : WORDS) {
            fault("person " + word + " 0 1 1 1;", 1, 7);
            fault("person " + word.substring(1) + " 0 1 1 1;", 0, -1);
            fault("person " + word.substring(0, word.length() - 1) + " 0 1 1 1;", 0, -1);
            fault("person " + word + "x 0 1 1 1;", 0, -1);
            fault("person x" + word + " 0 1 1 1;", 0, -1);
            fault(word.substring(0, word.length() - 1) + " 3;", 1, 0);
            fault(word + "x 3;", 1, 0);
        }
        fault("person Ann 0 1 1 1;", 1, 7);
        fault("person aNn 0 1 1 1;", 1, 8);
        fault("person an_n 0 1 1 1;", 1, 9);
        fault("person a b 0 1 1 1;", 1, 9);
    }

    private static void ints() {
        about("INTS (1 to 4 digits)");
        fault("seed 0;", 0, -1);
        fault("seed 9;", 0, -1);
        fault("seed 0000;", 0, -1);
        fault("seed 9999;", 0, -1);
        fault("seed 00000;", 1, 5);
        fault("seed 10000;", 1, 5);
        fault("seed 99999999999999999999;", 1, 5);
        fault("seed ;", 1, 5);
        fault("seed 12 34;", 1, 8);
        fault("shaft 0012;", 0, -1);
        fault("person a 00 01 0001 009;", 0, -1);
        fault("person a 00000 1 1 1;", 1, 9);
        due("9999 in a LAW", told("room = if 9998 < 9999 then 99 else 0;").rung(0, 0), 99);
        fault("room = 10000;", 1, 7);
        due("a 0 ahead", told("room = 0012;").rung(0, 0), 12);
    }

    private static void signs() {
        about("SIGNS ; = + - * / < ( ), all else is no TOKEN");
        for (String sign : new String[] {";", "=", "+", "-", "*", "/", "<", "(", ")", ".", ",", ">", ":", "A", "_", "#"}) {
            fault("shaft 3; " + sign + " seed 1;", 1, 9);
            fault("shaft " + sign + " 3;", 1, 6);
        }
    }

    private static void longestTokens() {
        about("TOKENS, the longest that can be; a longer one is no TOKEN");
        fault("shaftshaft 3;", 1, 0);
        fault("shaft 3;abcdefghi", 1, 8);
        fault("shaft 3;abcdefgh", 1, 8);
        fault("shaft 12345", 1, 6);
        fault("shaft 1234", 1, 10);
        fault("person personpe 0 1 1 1;", 0, -1);
        fault("person " + times(300, "z") + " 0 1 1 1;", 1, 7);
        fault("room = " + times(300, "1") + ";", 1, 7);
        fault("room = 12rung;", 1, 9);
        fault("room = rung12;", 1, 11);
    }

    /** Behind each beginning of a text: which TOKENS there are with which a text goes on. */
    private static void grammar() {
        about("SYNTAX: a TOKEN, or what is none, with which no text goes on");
        String unit = "INT VAR (";
        goesOnWith("", "TELL end");
        goesOnWith("shaft", "INT");
        goesOnWith("shaft 3", ";");
        goesOnWith("shaft 3;", "TELL end");
        goesOnWith("seed", "INT");
        goesOnWith("seed 3", ";");
        goesOnWith("seed 3;", "TELL end");
        goesOnWith("person", "NAME");
        goesOnWith("person zoe", "INT");
        goesOnWith("person zoe 0", "INT");
        goesOnWith("person zoe 0 1", "INT");
        goesOnWith("person zoe 0 1 1", "INT");
        goesOnWith("person zoe 0 1 1 1", ";");
        goesOnWith("person zoe 0 1 1 1;", "TELL end");
        for (String law : new String[] {"room", "quarrel", "cup", "breaks"}) {
            goesOnWith(law, "=");
            goesOnWith(law + " =", "if " + unit);
            goesOnWith(law + " = 3", "+ - * / ;");
            goesOnWith(law + " = rung", "+ - * / ;");
            goesOnWith(law + " = (", unit);
            goesOnWith(law + " = ((", unit);
            goesOnWith(law + " = (3", "+ - * / )");
            goesOnWith(law + " = (3 + here", "+ - * / )");
            goesOnWith(law + " = ((3)", "+ - * / )");
            goesOnWith(law + " = (3)", "+ - * / ;");
            for (String sign : new String[] {"+", "-", "*", "/"}) {
                goesOnWith(law + " = 3 " + sign, unit);
                goesOnWith(law + " = 3 " + sign + " 4", "+ - * / ;");
                goesOnWith(law + " = (3 " + sign, unit);
            }
            goesOnWith(law + " = if", unit);
            goesOnWith(law + " = if 3", "+ - * / <");
            goesOnWith(law + " = if (3", "+ - * / )");
            goesOnWith(law + " = if (3)", "+ - * / <");
            goesOnWith(law + " = if 3 <", unit);
            goesOnWith(law + " = if 3 < 4", "+ - * / then");
            goesOnWith(law + " = if 3 < 4 then", unit);
            goesOnWith(law + " = if 3 < 4 then 5", "+ - * / else");
            goesOnWith(law + " = if 3 < 4 then 5 else", "if " + unit);
            goesOnWith(law + " = if 3 < 4 then 5 else 6", "+ - * / ;");
            goesOnWith(law + " = if 3 < 4 then 5 else if 3", "+ - * / <");
            goesOnWith(law + " = 3;", "TELL end");
        }
    }

    private static void goesOnWith(String beginning, String kinds) {
        List<String> allowed = Arrays.asList(kinds.split(" "));
        if (allowed.contains("end")) {
            fault(beginning, 0, -1);
            fault(beginning + " ", 0, -1);
        } else {
            fault(beginning, 1, beginning.length());
            fault(beginning + " \n", 1, beginning.length() + 2);
        }
        for (String word : WORDS) {
            boolean goes = VARS.contains(word) && allowed.contains("VAR") || TELLS.contains(word) && allowed.contains("TELL")
                || allowed.contains(word);
            goOn(beginning, word, goes);
        }
        goOn(beginning, "7", allowed.contains("INT"));
        goOn(beginning, "ann", allowed.contains("NAME"));
        for (String sign : new String[] {";", "=", "+", "-", "*", "/", "<", "(", ")"}) {
            goOn(beginning, sign, allowed.contains(sign));
        }
        for (String none : new String[] {".", ">", "A", "12345", "abcdefghi", "\u0000", "\u00e4"}) {
            goOn(beginning, none, false);
        }
    }

    private static void goOn(String beginning, String token, boolean goes) {
        String text = beginning + " " + token;
        if (!goes) {
            fault(text, 1, beginning.length() + 1);
        } else if (token.equals(";")) {
            fault(text, 0, -1);
        } else {
            fault(text, 1, text.length());
        }
    }

    private static void shaft() {
        about("SHAFT: how many RUNGS 1 .. 12 (8), the last one");
        due("not told", told("seed 1;").count(0), 8);
        due("1", told("shaft 1;").count(0), 1);
        due("12", told("shaft 12;").count(0), 12);
        due("the last one", told("shaft 12;shaft 5;").count(0), 5);
        due("the last one", told("shaft 1;person a 7 1 1 1;shaft 8;").count(0), 8);
        fault("shaft 0;", 5, 6);
        fault("shaft 13;", 5, 6);
        fault("shaft 9999;", 5, 6);
        fault("shaft 0;shaft 5;", 5, 6);
        fault("shaft 5;shaft 13;", 5, 14);
        about("RUNG 0 is the top");
        LadderStreet x = told("shaft 3;person a 2 1 1 9;person b 0 1 1 9;");
        due("b is above a", x.above(0), 2);
        due("nobody is above b", x.above(1), 0);
        due("the bucket comes by b first", x.bucket(9) + x.person(1, 6), 9);
    }

    private static void people() {
        about("PEOPLE, 5 at most, numbered from 0 on as they stand");
        due("nobody", told("").count(1), 0);
        due("1", told("person a 0 1 1 1;").count(1), 1);
        due("5", told(FIVE).count(1), 5);
        fault(FIVE + "person f 0 1 1 1;", 2, FIVE.length());
        LadderStreet x = told("person z 0 3 1 1;person a 0 2 1 1;shaft 4;person m 0 1 1 1;");
        due("0", x.person(0, 1), 3);
        due("1", x.person(1, 1), 2);
        due("2", x.person(2, 1), 1);
    }

    private static void numbersOfAPerson() {
        about("the RUNG 0 .. 11");
        due("0", told("person a 0 1 1 1;").person(0, 0), 0);
        due("11", told("shaft 12;person a 11 1 1 1;").person(0, 0), 11);
        fault("shaft 12;person a 12 1 1 1;", 5, 18);
        fault("shaft 12;person a 9999 1 1 1;", 5, 18);
        about("WIDTH 1 .. 9");
        due("1", told("person a 0 1 1 1;").person(0, 1), 1);
        due("9", told("person a 0 9 1 1;").person(0, 1), 9);
        fault("person a 0 0 1 1;", 5, 11);
        fault("person a 0 10 1 1;", 5, 11);
        about("TEMPER 0 .. 9");
        due("0", told("person a 0 1 0 1;").person(0, 2), 0);
        due("9", told("person a 0 1 9 1;").person(0, 2), 9);
        fault("person a 0 1 10 1;", 5, 13);
        about("THIRST 0 .. 9");
        due("0", told("person a 0 1 1 0;").person(0, 3), 0);
        due("9", told("person a 0 1 1 9;").person(0, 3), 9);
        fault("person a 0 1 1 10;", 5, 15);
    }

    private static void laws() {
        about("LAWS: ROOM (9), QUARREL (0), CUP (thirst), BREAKS (0), if not told; the last one");
        LadderStreet x = told("shaft 2;person a 0 5 9 7;person b 1 5 9 6;");
        due("ROOM", x.rung(0, 0), 9);
        due("BREAKS", x.rung(0, 4), 0);
        x.send(0, 1);
        x.minutes(60);
        due("waited", x.person(0, 5), 60);
        due("QUARRELS", x.count(3), 0);
        due("nothing broke", x.count(4), 0);
        due("CUP is thirst", x.bucket(99), 86);
        LadderStreet y = told("shaft 2;person a 0 5 9 7;person b 1 5 9 6;room=1;quarrel=1;cup=1;breaks=1;"
            + "breaks=if minute < 1 then 0 else 100;cup=2;quarrel=3;room=4;");
        due("ROOM", y.rung(0, 0), 4);
        due("CUP", y.bucket(9), 5);
        y.send(0, 1);
        y.minutes(1);
        due("QUARREL", y.count(3), 3);
        due("BREAKS", y.rung(0, 4), 100);
        LadderStreet z = told("shaft 2;room=1;room=if rung<1 then 2 else 3;person a 0 5 9 7;cup=1;person b 1 5 9 6;");
        due("the last one may be longer", z.rung(0, 0) * 10 + z.rung(1, 0), 23);
        due("and the next LAW stands behind it", z.bucket(9), 7);
    }

    private static void seed() {
        about("SEED 0 .. 9999 (0), the last one");
        String breaks = "shaft 12;breaks = 50;";
        due("not told", broken(breaks), broken(breaks + "seed 0;"));
        due("0000", broken(breaks + "seed 0000;"), broken(breaks + "seed 0;"));
        due("the last one", broken("seed 1;seed 9999;" + breaks), broken(breaks + "seed 9999;"));
        due("others are others", broken(breaks + "seed 9999;") != broken(breaks + "seed 0;"), true);
        due("others are others", broken(breaks + "seed 1;") != broken(breaks + "seed 0;"), true);
    }

    private static int broken(String text) {
        LadderStreet x = told(text);
        x.minutes(1);
        return x.count(4);
    }

    private static void firstFault() {
        about("FAULTS of a text, the first by its place");
        fault("shaft; seed; ?", 1, 5);
        fault(FIVE + "person f 0 1 1 1; ?", 2, FIVE.length());
        fault("?" + FIVE + "person f 0 1 1 1;", 1, 0);
        fault("cup=(((((((1)))))));room=;", 2, 10);
        fault("room=;cup=(((((((1)))))));", 1, 5);
        about("the text's end: its length");
        fault("s", 1, 0);
        fault("seed", 1, 4);
        fault("seed 1", 1, 6);
        fault("seed 1 \t\r\n", 1, 10);
        fault("room", 1, 4);
        about("If there is none, likewise: what is told wrongly counts behind SYNTAX and ROOM, wherever they are");
        fault("shaft 0;person a 0 1 1 1;person a 0 1 1 1;seed", 1, 46);
        fault("person a 9 1 1 1;;", 1, 17);
        fault("shaft 0;" + FIVE + "person f 0 1 1 1;", 2, 8 + FIVE.length());
        fault("person a 0 0 1 1;person a 0 1 1 1;", 5, 11);
        fault("person a 0 1 1 1;person a 0 0 1 1;", 3, 24);
        fault("person a 9 1 1 1;person b 0 10 1 1;", 5, 28);
    }

    private static void tooManyTokens() {
        about("ROOM: a 401st TOKEN");
        // "seed 1;" has three TOKENS: 133 of them are 399.
        String most = times(133, "seed 1;");
        fault(most, 0, -1);
        fault(times(134, "seed 1;"), 2, 133 * 7 + 5);
        fault(most + "shaft 3;", 2, 133 * 7 + 6);
        fault(most + "person a 0 1 1 1;", 2, 133 * 7 + 7);
        fault(most + "person", 1, 133 * 7 + 6);
        // "room=1;" has four TOKENS: 100 of them are 400.
        String full = times(100, "room=1;");
        fault(full, 0, -1);
        fault(full + " \n", 0, -1);
        for (String tell : TELLS) {
            fault(full + tell, 2, 700);
        }
        fault(full + "room=1;", 2, 700);
        about("of one place the least");
        fault(full + ";", 1, 700);
        fault(full + "7", 1, 700);
        fault(full + "ann", 1, 700);
        fault(full + "if", 1, 700);
        fault(full + "abcdefghi", 1, 700);
        fault(full + "?", 1, 700);
        // 5 PEOPLE of seven TOKENS, 3 SEEDS of three and 89 LAWS of four are 400; the 401st is a 6th PERSON's, too.
        String both = FIVE + times(3, "seed 1;") + times(89, "room=1;");
        fault(both, 0, -1);
        fault(both + "person f 0 1 1 1;", 2, both.length());
        about("ROOM: a 401st TOKEN");
        // 396, then the 400th is "-", or a TOKEN with which no text goes on.
        String ninetyNine = times(99, "room=1;");
        fault(ninetyNine + "room=1-1;", 2, 99 * 7 + 7);
        fault(ninetyNine + "room=(1);", 2, 99 * 7 + 7);
        fault(ninetyNine + "room=(1;", 1, 99 * 7 + 7);
        fault(ninetyNine + "room=(;", 1, 99 * 7 + 6);
        fault(ninetyNine + "room=1(1;", 1, 99 * 7 + 6);
        fault(times(600, "("), 1, 0);
        fault("room=" + times(900, "1+"), 2, 5 + 398);
        fault("room=1" + times(199, "+1") + ";", 2, 5 + 398);
        fault("room=1" + times(198, "+1") + ";", 0, -1);
        LadderStreet x = told("room=1" + times(198, "+1") + ";");
        due("a LAW of 400 TOKENS", x.rung(0, 0), 99);
        LadderStreet y = told("room=250" + times(198, "-1") + ";");
        due("a LAW of 400 TOKENS", y.rung(0, 0), 52);
    }

    private static void sixthPerson() {
        about("ROOM: a 6th PERSON (at its first TOKEN)");
        int place = FIVE.length();
        fault(FIVE + "person", 2, place);
        fault(FIVE + "  person f 0 1 1 1;", 2, place + 2);
        fault(FIVE + "person a 0 1 1 1;", 2, place);
        fault(FIVE + "person ?", 2, place);
        fault(FIVE + "person f 0 0 1 1;", 2, place);
        fault(FIVE + "persons", 1, place);
        fault(FIVE + "shaft 3;person f 0 1 1 1;person g 0 1 1 1;", 2, place + 8);
        // A wrong one is one, too.
        fault("person a 99 0 10 10;" + FIVE.substring(17) + "person f 0 1 1 1;", 2, place + 3);
    }

    private static void fifthIf() {
        about("ROOM: a 5th if of a LAW (at it)");
        String anIf = "if 1<2 then 3 else ";
        for (String law : new String[] {"room", "quarrel", "cup", "breaks"}) {
            String four = law + "=" + times(4, anIf);
            fault(four + "4;", 0, -1);
            fault(four + "if 1<2 then 3 else 4;", 2, four.length());
            fault(four + "if", 2, four.length());
            fault(four + " if ?", 2, four.length() + 1);
            fault(four + ";", 1, four.length());
            fault(four + "4;" + law + "=" + times(4, anIf) + "4;", 0, -1);
        }
        fault("cup=" + times(4, anIf) + "4 if", 1, 4 + 4 * anIf.length() + 2);
        LadderStreet x = told("shaft 6;room=if rung<1 then 11 else if rung<2 then 12 else if rung<3 then 13 else if rung<4 then 14 "
            + "else 15;");
        for (int rung = 0; rung < 6; rung++) {
            due("ROOM of " + rung, x.rung(rung, 0), Math.min(15, 11 + rung));
        }
    }

    private static void seventhBracket() {
        about("ROOM: a 7th ( within one another (at it)");
        fault("cup=" + times(6, "(") + "1" + times(6, ")") + ";", 0, -1);
        fault("cup=" + times(7, "(") + "1" + times(7, ")") + ";", 2, 10);
        fault("cup=" + times(7, "("), 2, 10);
        fault("cup=" + times(6, "("), 1, 10);
        fault("cup=" + times(6, "(") + " (", 2, 11);
        fault("cup=((((((1)+(2))+(3))+(4))+(5))+(6));", 0, -1);
        fault("cup=((((((1)+((2)))+(3))+(4))+(5))+(6));", 2, 14);
        fault("cup=((((((1))))))*((((((1))))));", 0, -1);
        fault("cup=if((((((1))))))<((((((1))))))then((((((1))))))else((((((1))))));", 0, -1);
        String six = "((((((1))))))";
        String seven = "(((((((1)))))))";
        fault("cup=if" + seven + "<2 then 3 else 4;", 2, 12);
        fault("cup=if 1<" + seven + "then 3 else 4;", 2, 15);
        fault("cup=if 1<2 then" + seven + "else 4;", 2, 21);
        fault("cup=if 1<2 then 3 else" + seven + ";", 2, 28);
        fault("cup=" + six + ";room=" + seven + ";", 2, 4 + 13 + 6 + 6);
    }

    private static void twice() {
        about("TWICE: a NAME told already");
        fault("person a 0 1 1 1;person a 0 1 1 1;", 3, 24);
        fault("person a 0 1 1 1;person b 0 1 1 1;person a 0 1 1 1;", 3, 41);
        fault("person a 0 1 1 1;person b 0 1 1 1;person b 0 1 1 1;person a 0 1 1 1;", 3, 41);
        fault(FIVE.replace("person e", "person a"), 3, 75);
        fault(FIVE.replace("person e", "person d"), 3, 75);
        fault("person abcdefgh 0 1 1 1;person abcdefgh 0 1 1 1;", 3, 31);
        fault("person abcdefgh 0 1 1 1;person abcdefgi 0 1 1 1;person bbcdefgh 0 1 1 1;person abcdefg 0 1 1 1;"
            + "person bcdefgh 0 1 1 1;", 0, -1);
        fault("person a 0 1 1 1;person aa 0 1 1 1;person aaa 0 1 1 1;person z 0 1 1 1;person za 0 1 1 1;", 0, -1);
        LadderStreet x = told("person a 0 1 1 1;");
        due("a NAME of the text ahead", read(x, "person a 0 1 1 1;"), 0);
        due("a NAME of a text with a FAULT ahead", read(x, "person b 0 1 1 1;person c 0 1 1 1;?"), 1);
        due("a NAME of a text with a FAULT ahead", read(x, "person c 0 1 1 1;person b 0 1 1 1;"), 0);
    }

    private static void wrong() {
        about("WRONG (at the INT): a number not as told above");
        fault("shaft   13;", 5, 8);
        fault("person a 12 10 10 10;", 5, 9);
        fault("person a 11 10 10 10;shaft 12;", 5, 12);
        fault("person a 11 9 10 10;shaft 12;", 5, 14);
        fault("person a 11 9 9 10;shaft 12;", 5, 16);
        fault("person a 11 9 9 9;shaft 12;", 0, -1);
        fault("person a 11 1 0 0;shaft 12;", 0, -1);
        fault("person b 0 1 1 10;shaft 13;", 5, 15);
        fault("seed 9999;seed 0;room=9999;", 0, -1);
    }

    private static void noSuchRung() {
        about("SHAFT (at the text's end): a PERSON on a RUNG that there is not");
        fault("person a 7 1 1 1;", 0, -1);
        fault("person a 8 1 1 1;", 6, 17);
        fault("person a 8 1 1 1;\n\n", 6, 19);
        fault("shaft 1;person a 0 1 1 1;", 0, -1);
        fault("shaft 1;person a 1 1 1 1;", 6, 25);
        fault("shaft 12;person a 11 1 1 1;shaft 11;", 6, 36);
        fault("shaft 1;person a 11 1 1 1;shaft 12;", 0, -1);
        fault(FIVE.replace("e 0", "e 8"), 6, FIVE.length());
        fault(FIVE.replace("a 0", "a 8"), 6, FIVE.length());
        LadderStreet x = told("shaft 12;");
        due("the RUNGS of the text ahead don't count", read(x, "person a 8 1 1 1;"), 6);
    }

    private static void faultChangesNothing() {
        about("A text with a FAULT changes nothing but the tape");
        String[] faults = {"shaft 2;person b 0 1 1 1;room=1;seed 4;?", "shaft 2;" + FIVE + "person f 0 1 1 1;",
            "shaft 2;person b 0 1 1 1;person b 0 1 1 1;room=1;", "person b 0 1 1 1;cup=1;quarrel=9;shaft 0;",
            "shaft 2;person b 3 1 1 1;breaks=100;seed 4;"};
        int[] numbers = {1, 2, 3, 5, 6};
        int[] places = {39, 93, 32, 39, 43};
        for (int i = 0; i < faults.length; i++) {
            LadderStreet x = told("shaft 4;person a 0 2 3 4;person c 2 8 1 1;room=8+minute/9;quarrel=2;seed 7;");
            x.send(0, 3);
            x.minutes(3);
            x.hold(1);
            x.tell(2, true);
            x.bucket(50);
            String before = seen(x);
            due("read", read(x, faults[i]), numbers[i]);
            due("place", x.place(), places[i]);
            due("the tape is empty", x.count(8), 0);
            due("what is seen", seen(x), before);
            x.minutes(1);
            due("by the same LAWS", x.count(3), 6);
            due("undone", x.undo(), true);
            due("undone", x.undo(), true);
            due("water", x.count(6), 0);
            due("undone", x.undo(), true);
            due("minute", x.count(2), 0);
            due("restored", x.restore(1), true);
            due("minute", x.count(2), 3);
        }
    }

    private static void textInPlaceOfAnother() {
        about("else it is in place of the one ahead");
        LadderStreet x = told("shaft 12;" + FIVE.replace("1 1 1", "9 8 7") + "room=if minute<1 then 9 else 1;quarrel=7;cup=1;"
            + "breaks=if minute<1 then 0 else 100;seed 99;");
        for (int person = 0; person < 5; person++) {
            x.send(person, 11);
        }
        x.minutes(1);
        x.bucket(9);
        x.hold(0);
        x.hold(2);
        x.minutes(1);
        x.tell(3, false);
        due("read", read(x, "shaft 3;person b 1 4 5 6;person a 1 7 5 6;"), 0);
        due("what is seen", seen(x), "counts 3 2 0 0 0 0 0 0 0 0 0 11 2 0 5 12"
            + "; person 0: 1 4 5 6 -2 0 0 0; person 1: 1 7 5 6 -2 0 0 0"
            + "; rung 0: 9 0 0 1 0 0; rung 1: 9 11 3 1 0 0; rung 2: 9 0 0 1 0 0");
        due("nothing can be undone", x.undo(), false);
        due("SLOTS hold nothing", x.restore(0), false);
        due("SLOTS hold nothing", x.restore(2), false);
        due("all where they were told, ROOM or not", x.count(13), 2);
        due("a RUNG that is no more", x.rung(3, 3), -1);
        due("a PERSON that is no more", x.person(2, 0), -1);
        x.send(0, 2);
        x.send(1, 0);
        x.minutes(5);
        due("no BREAKS and no QUARRELS of the text ahead", seen(x), "counts 3 2 5 0 0 0 0 0 1 0 0 11 0 0 2 12".replace(" 0 0 1 0 0",
            " 0 0 3 0 0") + "; person 0: 2 4 5 6 -2 0 0 0; person 1: 0 7 5 6 -2 0 0 0"
            + "; rung 0: 9 7 2 1 0 0; rung 1: 9 0 0 1 0 0; rung 2: 9 4 1 1 0 0");
        due("CUP of the text ahead is no more", x.bucket(99), 87);
        due("an empty text", x.read(), 0);
        due("what is seen", seen(x), seen(new LadderStreet()));
    }

    private static void faultsOneBehindTheOther() {
        about("place: of the latest read()'s FAULT; NONE without");
        LadderStreet x = new LadderStreet();
        due("no read", x.place(), -1);
        String[] texts = {"  ?", "shaft 0;", "", "person a 0 1 1 1;person a 0 1 1 1;", "person a 0 1 1 1;",
            FIVE + "person", "seed 1;", "?", "shaft", "person a 8 1 1 1;", "shaft 13;?", "shaft 12;", "0", ";", "a"};
        int[] numbers = {1, 5, 0, 3, 0, 2, 0, 1, 1, 6, 1, 0, 1, 1, 1};
        int[] places = {2, 6, -1, 24, -1, FIVE.length(), -1, 0, 5, 17, 9, -1, 0, 0, 0};
        for (int i = 0; i < texts.length; i++) {
            due("read " + i, read(x, texts[i]), numbers[i]);
            due("place " + i, x.place(), places[i]);
            due("place stays " + i, x.place(), places[i]);
            x.feed(0, 0, 0, 0, 0);
            x.back(20);
            due("place stays while the tape grows " + i, x.place(), places[i]);
        }
    }

    private static void feeding() {
        about("Twenty bytes, the highest of a first, come behind the tape");
        // "shaft 3;seed 4;room=" and "5;cup=if 1<2 then 3 ", "else 4;" by their bytes.
        LadderStreet x = new LadderStreet();
        due("20", x.feed(0x73686166, 0x7420333b, 0x73656564, 0x20343b72, 0x6f6f6d3d), 20);
        due("40", x.feed(0x353b6375, 0x703d6966, 0x20313c32, 0x20746865, 0x6e203320), 40);
        due("60", x.feed(0x656c7365, 0x20343b20, 0x20202020, 0x20202020, 0x20202020), 60);
        due("read", x.read(), 0);
        due("RUNGS", x.count(0), 3);
        due("ROOM", x.rung(2, 0), 5);
        due("the tape is empty then", x.count(8), 0);
        due("20 again", x.feed(-1, -1, -1, -1, -1), 20);
        due("bytes 255", x.read(), 1);
        due("place", x.place(), 0);
        due("20 again", x.feed(0x20202020, 0x20202020, 0x20202020, 0x20202020, 0x20202080), 20);
        due("the lowest byte is the last", x.read(), 1);
        due("place", x.place(), 19);
        about("NONE, and nothing comes, if it would have more than 2,000");
        for (int i = 1; i <= 99; i++) {
            due("feed", x.feed(0x20202020, 0x20202020, 0x20202020, 0x20202020, 0x20202020), 20 * i);
        }
        due("back 1", x.back(1), 1979);
        due("feed to 1999", x.feed(0x20202020, 0x20202020, 0x20202020, 0x20202020, 0x20202020), 1999);
        due("2,019 are too many", x.feed(-1, -1, -1, -1, -1), -1);
        due("back 18", x.back(18), 1981);
        due("2,001 are too many", x.feed(-1, -1, -1, -1, -1), -1);
        due("nothing comes", x.count(8), 1981);
        due("back 1", x.back(1), 1980);
        due("just 2,000", x.feed(0x20202020, 0x20202020, 0x20202020, 0x20202020, 0x73656564), 2000);
        due("full", x.feed(-1, -1, -1, -1, -1), -1);
        due("full", x.feed(0, 0, 0, 0, 0), -1);
        due("read", x.read(), 1);
        due("what was refused didn't come", x.place(), 2000);
        due("room again", x.feed(0, 0, 0, 0, 0), 20);
    }

    private static void goingBack() {
        about("back: NONE, and nothing goes, if it has not so many, or n is below 0");
        LadderStreet x = new LadderStreet();
        due("0 of none", x.back(0), 0);
        due("1 of none", x.back(1), -1);
        due("-1 of none", x.back(-1), -1);
        x.feed(0x73656564, 0x20333b73, 0x65656420, 0x393b3f3f, 0x3f3f3f3f);
        due("21 of 20", x.back(21), -1);
        due("-1", x.back(-1), -1);
        due("-20", x.back(-20), -1);
        due("the least int", x.back(Integer.MIN_VALUE), -1);
        due("the greatest int", x.back(Integer.MAX_VALUE), -1);
        due("nothing goes", x.count(8), 20);
        due("0", x.back(0), 20);
        due("1", x.back(1), 19);
        due("5: the last ones go", x.back(5), 14);
        due("read", x.read(), 0);
        x.feed(1, 2, 3, 4, 5);
        due("all", x.back(20), 0);
        due("read of none", x.read(), 0);
        due("then it has none", x.back(1), -1);
    }
}
