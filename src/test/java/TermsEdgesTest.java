import java.util.Arrays;
import java.util.function.BiFunction;

/** The sentences under "Terms", each with a test of its own, at its boundaries, and the promise it is of. */
public final class TermsEdgesTest {
    private static final int NONE = Edge.NONE;
    private static final int LEAST = Integer.MIN_VALUE;
    private static final int MOST = Integer.MAX_VALUE;
    private static final String TWO = "person 5 1;person 4 2;";
    private static final String THREE = "person 5 1;person 4 2;person 3 4;";
    private static final String FOUR = THREE + "person 2 8;";
    private static final String EIGHT = "person 1 1;".repeat(8);

    public static void main(String[] args) {
        people();
        tokens();
        lines();
        expressions();
        worths();
        values();
        faults();
        tooMuch();
        unknownOrTaken();
        aWeek();
        aCut();
        death();
        deathWithoutHeir();
        wedAndSettled();
        acts();
        actsRefused();
        ahead();
        hottestAndBitter();
        heirs();
        campsAndTables();
        wordsAndDeaths();
        friendsAndMatches();
        loneliness();
        seen();
        lookNext();
        game();
        years();
        draws();
        statusAndImage();
        Edge.endOfTerms();
    }

    private static WivesQuarrels of(String text) {
        return Edge.of(text);
    }

    private static void is(String call, int got, int due) {
        Edge.is(call, got, due);
    }

    private static void is(String call, boolean got, boolean due) {
        Edge.is(call, got, due);
    }

    private static WivesQuarrels dead(String text, int... people) {
        WivesQuarrels x = of(text);
        for (int person : people) {
            x.die(person);
        }
        return x;
    }

    // ---- people, tokens, lines

    private static void people() {
        Edge.term(3, "PEOPLE 0, 1 .. (at most 8): NERVE (0 to 9), a DRAWER (bits of WORDS 0 to 9).", () -> {
            WivesQuarrels x = of("person 0 0;lawyer 9 1023;" + "person 1 512;".repeat(6));
            is("people", x.count(0), 8);
            is("nerve of 0", x.person(0, 0), 0);
            is("nerve of 1", x.person(1, 0), 9);
            is("the empty drawer", x.person(0, 1), 0);
            is("the full drawer", x.person(1, 1), 1023);
            is("the last one's drawer", x.person(7, 1), 512);
            is("word 0", x.word(0), 2);
            is("word 9", x.word(9), 254);
            Edge.text(EIGHT + "person 1 1;", 2, 88);
            Edge.text("person 10 1;", 2, 7);
            Edge.text("person 1 1024;", 2, 9);
        });
        Edge.term(3, "Two may be WED.", () -> {
            WivesQuarrels x = of(EIGHT + "wed 0 7;wed 6 1;wed 2 5;wed 4 3;");
            for (int p = 0; p < 8; p++) {
                is("wed to", x.person(p, 2), 7 - p);
            }
            Edge.text(THREE + "wed 0 1;wed 1 2;", 4, 45);
        });
        Edge.term(3, "QUARRELS (at most one of two PEOPLE): HEAT (1 to 99), a WORD.", () -> {
            WivesQuarrels x = of(TWO + "quarrel 1 0 1 0;");
            is("least heat", x.quarrel(0, 1, 0), 1);
            is("a second one", x.pick(0, 1, 9, 9), NONE);
            is("most heat", of(TWO + "quarrel 0 1 99 9;").quarrel(0, 1, 0), 99);
            is("all that can be", of(Edge.allAgainstAll("99", "9")).count(3), 28);
            Edge.text(TWO + "quarrel 0 1 0 1;", 2, 34);
            Edge.text(TWO + "quarrel 0 1 100 1;", 2, 34);
            Edge.text(TWO + "quarrel 0 1 1 1;quarrel 1 0 2 2;", 4, 48);
        });
        Edge.term(8, "Rules: HEATS, CUTS.", () -> {
            Edge.good("heats 1;cuts 1;");
            is("without them", of(TWO + "quarrel 0 1 21 0;").then(0, 1, 1, 0), 20);
            is("without them", of(TWO + "quarrel 0 1 21 0;").then(0, 1, 1, 1), 1);
        });
        Edge.term(3, "A TEXT of at most 700 bytes tells it.", () -> {
            String most = TWO + " ".repeat(700 - TWO.length() - 16) + "quarrel 0 1 5 5;";
            WivesQuarrels x = of(most);
            is("to the last byte", x.count(3), 1);
            Edge.text(most.substring(0, 699) + " ", 1, 700);
            Edge.text(most.substring(0, 699) + "5", 2, 698);
            for (String word : new String[] {"person", "lawyer", "wed", "quarrel", "heats", "cuts"}) {
                for (int cut = 1; cut <= word.length(); cut++) {
                    boolean whole = cut == word.length();
                    Edge.text(" ".repeat(700 - cut) + word.substring(0, cut), 1, whole ? 700 : 700 - cut);
                }
            }
            is("no more can be fed", fed(35), 700);
            is("no more can be fed", fed(36), NONE);
        });
    }

    private static int fed(int times) {
        WivesQuarrels x = new WivesQuarrels();
        int got = 0;
        for (int i = 0; i < times; i++) {
            got = x.feed(0, 0, 0, 0, 0);
        }
        return got;
    }

    private static void tokens() {
        Edge.term(3, "TOKENS: words (a .. z, the longest row)", () -> {
            Edge.good("person1 1;");
            Edge.text("personn 1 1;", 1, 0);
            Edge.text("perso n 1 1;", 1, 0);
            Edge.text("personwed 1 1;", 1, 0);
            Edge.text("person a1;", 1, 7);
            Edge.text("person z1;", 1, 7);
            Edge.text("person`1 1;", 1, 6);
            Edge.text("person{1 1;", 1, 6);
            Edge.text("Person 1 1;", 1, 0);
            Edge.text("personS 1 1;", 1, 6);
            Edge.text("heats heatz;", 3, 6);
            Edge.text("heats az;", 3, 6);
            Edge.text("heats za;", 3, 6);
            Edge.text("heats z;", 3, 6);
            Edge.text("heats " + "a".repeat(694), 3, 6);
        });
        Edge.term(3, "NUMBERS (1 to 4 digits)", () -> {
            Edge.good("person 0 0;");
            Edge.good("person 0009 0123;");
            Edge.good("heats 9999;");
            Edge.text("person 00009 1;", 2, 7);
            Edge.text("heats 10000;", 2, 6);
            Edge.text("person 1 1/;", 1, 10);
            Edge.text("person 1 1:;", 1, 10);
            Edge.text("heats " + "0".repeat(694), 2, 6);
            Edge.text("heats 4294967297;", 2, 6);
        });
        Edge.term(3, "signs ; ( ) + - * / < =", () -> {
            Edge.good("heats (1+2-3*4/5<6);cuts 1=2;");
            for (int sign = 0; sign < 256; sign++) {
                boolean known = " \n;()+-*/<=".indexOf(sign) >= 0 || sign >= '0' && sign <= '9'
                    || sign >= 'a' && sign <= 'z';
                if (!known) {
                    Edge.text("heats 1" + (char) sign + "1;", 1, 7);
                    Edge.text((char) sign + "heats 1;", 1, 0);
                }
            }
        });
        Edge.term(3, "blanks (32, 10) between them count for nothing.", () -> {
            Edge.good("\n \n person\n7 \n1\n;\n\n");
            Edge.good("heats( 1 ) \n+ 2;");
            Edge.good(" ".repeat(700));
            Edge.good("\n".repeat(700));
            is("so it is the same", of(" person\n \n7 1 \n;").person(0, 0), 7);
            Edge.text("person 1 1 1;", 1, 11);
            Edge.text("per\nson 1 1;", 1, 0);
            for (int other : new int[] {0, 9, 11, 12, 13, 31, 33, 160, 138}) {
                Edge.text("person" + (char) other + "1 1;", 1, 6);
            }
        });
    }

    private static void lines() {
        Edge.plainTerm("In quotes is what stands there, [ ] perhaps, * any number of times, | one of some.");
        Edge.term(3, "TOWN: LINE*.", () -> {
            Edge.good("");
            Edge.good(" \n ");
            Edge.good("heats 1;");
            Edge.good("heats 1;" + EIGHT + "cuts 1;" + "wed 0 1;wed 2 3;quarrel 0 1 9 9;");
            Edge.text(";", 1, 0);
            Edge.text("person 1 1;;", 1, 11);
        });
        Edge.term(3, "LINE: (('person' | 'lawyer') NERVE DRAWER | 'wed' PERSON PERSON | 'quarrel' PERSON PERSON"
            + " HEAT WORD | ('heats' | 'cuts') EXPR) ';', all in capitals but EXPR being NUMBERS.", () -> {
            String[] lines = {"person 1 1", "lawyer 1 1", "wed 0 1", "quarrel 0 1 9 9", "heats 1", "cuts 1"};
            for (String line : lines) {
                String text = TWO + line;
                int end = text.length();
                Edge.good(text + ";");
                Edge.text(text, 1, end);
                Edge.text(text + " ", 1, end + 1);
                Edge.text(text + " 1;", 1, end + 1);
                Edge.text(text + " heat;", 1, end + 1);
                Edge.text(text + ")", 1, end);
                for (int at = line.length() - 1; at > 0; at--) {
                    if (line.charAt(at) == ' ') {
                        String shorter = TWO + line.substring(0, at);
                        Edge.text(shorter, 1, shorter.length());
                        Edge.text(shorter + ";", 1, shorter.length());
                        Edge.text(shorter + "-1;", 1, shorter.length());
                    }
                }
            }
            Edge.text(TWO + "wed heat 1;", 1, TWO.length() + 4);
            Edge.text(TWO + "wed (0) 1;", 1, TWO.length() + 4);
            Edge.text("persons 1 1;", 1, 0);
            Edge.text("heat 1;", 1, 0);
            Edge.text("cut 1;", 1, 0);
            Edge.text("1 1;", 1, 0);
        });
    }

    // ---- expressions

    private static void goodExpr(String expr) {
        Edge.good("heats " + expr + ";");
        Edge.good("cuts " + expr + ";");
    }

    /** The FAULT of an expression, its place counted from the expression's start. */
    private static void badExpr(String expr, int fault, int place) {
        Edge.text("heats " + expr, fault, place + 6);
        Edge.text("cuts " + expr, fault, place + 5);
    }

    private static void expressions() {
        Edge.term(3, "EXPR: AND ('or' AND)*.", () -> {
            goodExpr("1");
            goodExpr("1" + " or 1".repeat(130));
            badExpr("1 or;", 1, 4);
            badExpr("1 or or 1;", 3, 5);
            worth("0" + " or 0".repeat(120), 0);
            worth("0" + " or 0".repeat(120) + " or 7", 1);
        });
        Edge.term(3, "AND: NOT ('and' NOT)*.", () -> {
            goodExpr("1" + " and 1".repeat(110));
            badExpr("1 and;", 1, 5);
            badExpr("1 and or 1;", 3, 6);
            worth("5" + " and 5".repeat(95), 1);
            worth("5" + " and 5".repeat(95) + " and 0", 0);
            worth("1 or 0 and 0", 1);
            worth("0 and 0 or 1", 1);
        });
        Edge.term(3, "NOT: 'not' NOT | SUM [('<' | '=') SUM].", () -> {
            goodExpr("not not not not not not 1");
            goodExpr("1<2");
            goodExpr("1=2");
            badExpr("not;", 1, 3);
            badExpr("1<;", 1, 2);
            badExpr("1<2<3;", 1, 3);
            badExpr("1<2=3;", 1, 3);
            badExpr("1=2=3;", 1, 3);
            badExpr("1<not 2;", 3, 2);
            badExpr("1 not 2;", 1, 2);
            worth("not 1<2", 0);
            worth("not 1+1=3", 1);
        });
        Edge.term(3, "SUM: PRODUCT (('+' | '-') PRODUCT)*.", () -> {
            goodExpr("1" + "+1".repeat(340));
            badExpr("1+;", 1, 2);
            badExpr("+1;", 1, 0);
            badExpr("-1;", 1, 0);
            badExpr("1+-1;", 1, 2);
            badExpr("1+not 1;", 3, 2);
            worth("1" + "+1".repeat(280), 281);
            worth("0" + "-1".repeat(280), -280);
            worth("2+3*4-10/5", 12);
        });
        Edge.term(3, "PRODUCT: PART (('*' | '/') PART)*.", () -> {
            goodExpr("1" + "*1".repeat(340));
            badExpr("1*;", 1, 2);
            badExpr("*1;", 1, 0);
            badExpr("1*/1;", 1, 2);
            badExpr("1*not 1;", 3, 2);
            worth("7" + "*1".repeat(280), 7);
            worth("7*5/3", 11);
        });
        Edge.term(3, "PART: NUMBER | VALUE | '(' EXPR ')'.", () -> {
            goodExpr("(((((1)))))");
            goodExpr("(1 or 2)*(not 3)");
            badExpr("();", 1, 1);
            badExpr("(1;", 1, 2);
            badExpr("(1", 1, 2);
            badExpr("1);", 1, 1);
            badExpr("(1));", 1, 3);
            badExpr(");", 1, 0);
            badExpr("1(2);", 1, 1);
            badExpr("(1)2;", 1, 3);
            badExpr(";", 1, 0);
            badExpr("", 1, 0);
            worth("0000", 0);
            worth("9999", 9999);
            worth("(2+3)*(4)", 20);
        });
    }

    /** An int as an expression: three numbers of at most 4095. */
    private static String told(int number) {
        return "((" + (number >>> 24) + "*4096+" + (number >>> 12 & 4095) + ")*4096+" + (number & 4095) + ")";
    }

    /** What an expression gives, bit by bit: CUTS tests it. */
    private static void worth(String expr, int due) {
        worth(TWO + "quarrel 0 1 50 0;", expr, due);
    }

    private static void worth(String town, String expr, int due) {
        WivesQuarrels x = of(town + "cuts(" + expr + ")=" + told(due) + ";");
        is(expr + " gives " + due, x.quarrel(0, 1, 4), 1);
    }

    private static void worths() {
        Edge.term(8, "From the left", () -> {
            worth("7-2-3", 2);
            worth("100/7/2", 7);
            worth("7/2*2", 6);
            worth("2*7/4", 3);
            worth("1-2+3", 2);
            worth("9999*9999*9999*9999/9999", 9999 * 9999 * 9999 * 9999 / 9999);
        });
        Edge.term(8, "ints that wrap", () -> {
            worth(told(MOST) + "+1", LEAST);
            worth(told(LEAST) + "-1", MOST);
            worth("0-" + told(LEAST), LEAST);
            worth(told(LEAST) + "/(0-1)", LEAST);
            worth(told(MOST) + "*" + told(MOST), 1);
            worth(told(MOST) + "*2", -2);
            worth("9999*9999*9999", 9999 * 9999 * 9999);
            worth("not " + told(MOST) + "<" + told(MOST) + "+1", 1);
            String heats = TWO + "quarrel 0 1 50 0;heats ";
            is("one that wraps below 0 cools", of(heats + told(MOST) + "+1;").then(0, 1, 1, 0), 41);
            is("one that wraps above 0 heats", of(heats + told(LEAST) + "-1;").then(0, 1, 1, 0), 59);
        });
        Edge.term(8, "/ cut down to 0, by 0 gives 0", () -> {
            worth("7/2", 3);
            worth("(0-7)/2", -3);
            worth("7/(0-2)", -3);
            worth("(0-7)/(0-2)", 3);
            worth("1/2", 0);
            worth("(0-1)/2", 0);
            worth("(0-9)/10", 0);
            worth("5/0", 0);
            worth("0/0", 0);
            worth("(0-5)/0", 0);
            worth("5/(1-1)+3", 3);
            worth(told(LEAST) + "/0", 0);
        });
        Edge.term(8, "tests, not, and, or are 1 or 0 (what isn't 0 holds).", () -> {
            worth("1<2", 1);
            worth("2<2", 0);
            worth("3<2", 0);
            worth("0-1<0", 1);
            worth("2=2", 1);
            worth("2=3", 0);
            worth("not 0", 1);
            worth("not 5", 0);
            worth("not (0-1)", 0);
            worth("not " + told(LEAST), 0);
            worth("not not 5", 1);
            worth("5 and 7", 1);
            worth("0-1 and 0-1", 1);
            worth("5 and 0", 0);
            worth("0 and 5", 0);
            worth("0 or 5", 1);
            worth("5 or 0", 1);
            worth("0-1 or 0", 1);
            worth("5 or 6", 1);
            worth("0 or 0", 0);
            worth("2 and 1", 1);
        });
    }

    private static void values() {
        Edge.term(8, "VALUES of a QUARREL: 'heat'", () -> {
            worth(TWO + "quarrel 0 1 1 0;", "heat", 1);
            worth(TWO + "quarrel 0 1 99 0;", "heat", 99);
        });
        Edge.term(8, "'nerve' (of both, together)", () -> {
            worth("person 0 0;person 0 0;quarrel 0 1 1 0;", "nerve", 0);
            worth("person 9 0;person 9 0;quarrel 0 1 1 0;", "nerve", 18);
            worth("person 9 0;person 0 0;person 9 0;quarrel 0 1 1 0;", "nerve", 9);
        });
        Edge.term(8, "'unlike' (by how much NERVES differ)", () -> {
            worth("person 9 0;person 9 0;quarrel 0 1 1 0;", "unlike", 0);
            worth("person 9 0;person 0 0;quarrel 0 1 1 0;", "unlike", 9);
            worth("person 0 0;person 9 0;quarrel 0 1 1 0;", "unlike", 9);
        });
        Edge.term(8, "'many' (how many QUARRELS both are in, together, this one counted once)", () -> {
            worth(FOUR + "quarrel 0 1 1 0;", "many", 1);
            worth(FOUR + "quarrel 0 1 1 0;quarrel 2 3 1 1;", "many", 1);
            worth(FOUR + "quarrel 0 1 1 0;quarrel 1 2 1 1;", "many", 2);
            worth(FOUR + "quarrel 0 1 1 0;quarrel 1 2 1 1;quarrel 0 2 1 1;", "many", 3);
            WivesQuarrels x = of(Edge.allAgainstAll("1", "0") + "cuts many=13;");
            is("the most that can be", x.quarrel(6, 7, 4), 1);
            x.die(0);
            is("without the dead", x.quarrel(6, 7, 4), 0);
        });
        Edge.term(8, "'cut' (how often they have CUT each other in it)", () -> {
            WivesQuarrels x = of(TWO + "quarrel 0 1 50 0;heats cut;cuts 1;");
            int[] heats = {50, 50, 51, 53, 56, 60, 65};
            for (int week = 0; week < heats.length; week++) {
                is("heat by 'cut'", x.then(0, 1, week, 0), heats[week]);
            }
            WivesQuarrels y = of(TWO + "quarrel 0 1 50 0;heats 0;cuts 1-(98<cut)*2;");
            for (int i = 0; i < 6; i++) {
                y.weeks(20);
            }
            is("99 at most", y.quarrel(0, 1, 2), 99);
            is("and it is 99 there", y.quarrel(0, 1, 4), 0);
        });
        Edge.term(8, "'week'", () -> {
            WivesQuarrels x = of(TWO + "quarrel 0 1 50 0;heats 0;cuts week=999;");
            is("at first", x.then(0, 1, 1, 1), 0);
            for (int i = 0; i < 49; i++) {
                x.weeks(20);
            }
            x.weeks(19);
            is("at last", x.quarrel(0, 1, 4), 1);
            is("beyond, where it is just asked", x.then(0, 1, 60, 1), 1);
            worth("week", 0);
        });
    }

    // ---- faults

    private static void faults() {
        Edge.term(4, "FAULTS, the first along the text, at a TOKEN's first byte, of one TOKEN the least:", () -> {
            Edge.text("person 10 1024;#", 2, 7);
            Edge.text("person 1 1024;#", 2, 9);
            Edge.text("#person 10 1024;", 1, 0);
            Edge.text("  \n persons 1 1;", 1, 4);
            Edge.text("person;#", 1, 6);
            Edge.text("person 1;#", 1, 8);
            Edge.text(TWO + "wed 0;#", 1, 27);
            Edge.text(TWO + "quarrel 0;#", 1, 31);
            Edge.text(TWO + "quarrel 0 1;#", 1, 33);
            Edge.text(TWO + "quarrel 0 1 9;#", 1, 35);
            Edge.text("heats;#", 1, 5);
            Edge.text("heats (1;#", 1, 8);
            Edge.text("heats 12345;#", 2, 6);
            Edge.text("person 10 1;#", 2, 7);
            Edge.text("person 1 1;wed 0 1;#", 3, 17);
            Edge.text(TWO + "wed 0 0;#", 4, 28);
            Edge.text(TWO + "quarrel 0 1 1 1;quarrel 0 1 1 1;#", 4, 48);
            Edge.text("person   12345 1;", 2, 9);
            Edge.text("heats 1;heats x;", 5, 8);
            Edge.text("heats x;heats 1;", 3, 6);
            // A word that is no VALUE as the first of an EXPR within 6 others: 2 and 3.
            Edge.text("heats ((((((x", 2, 12);
            // A PERSON of five digits who isn't told ahead: 2 and 3.
            Edge.text("wed 12345 1;", 2, 4);
            // A seventh 'not' where a PART could stand: 2 and 3.
            Edge.text("heats not not not not not not not", 2, 30);
            // The first one, who isn't told ahead, is the second one, too: 3 and 4.
            Edge.text("wed 0 0;", 3, 4);
            // A number of five digits where none can stand: 1 and 2.
            Edge.text("person 1 1 12345;", 1, 11);
            // The ninth of people behind a line without its end: 1 and 2.
            Edge.text(EIGHT.substring(0, 87) + "person 1 1;", 1, 87);
            // A second 'heats' that can't stand there: 1 and 5.
            Edge.text("heats 1 heats 1;", 1, 8);
        });
        Edge.term(4, "1 a TOKEN that can't stand there, or is none (the text's length where it ends too soon)", () -> {
            Edge.text("x", 1, 0);
            Edge.text("person", 1, 6);
            Edge.text("person \n", 1, 8);
            Edge.text("person 1 1", 1, 10);
            Edge.text("person 1 1 wed", 1, 11);
            Edge.text("\u0000", 1, 0);
            Edge.text("person 1 1;\u00ff", 1, 11);
            Edge.text("person 1 1;!", 1, 11);
            Edge.text("heats heat heat;", 1, 11);
            Edge.text("heats ((((((", 1, 12);
            Edge.text("heats ((((((+", 1, 12);
            Edge.text("heats (((((()", 1, 12);
            Edge.text("heats ((((((;", 1, 12);
            Edge.text("heats 1" + " ".repeat(693), 1, 700);
        });
    }

    private static void tooMuch() {
        Edge.term(4, "2 one that can, but is too much: a NUMBER of 5 digits or more", () -> {
            Edge.text("person 00001 1;", 2, 7);
            Edge.text("person 1 00001;", 2, 9);
            Edge.text(TWO + "wed 00000 1;", 2, 26);
            Edge.text(TWO + "wed 0 00001;", 2, 28);
            Edge.text(TWO + "quarrel 0 1 00001 1;", 2, 34);
            Edge.text(TWO + "quarrel 0 1 1 00001;", 2, 36);
            Edge.text("heats 00001;", 2, 6);
            Edge.text("heats 1+10000;", 2, 8);
            Edge.text("cuts 99999999999999999999;", 2, 5);
            Edge.good("cuts 0001;");
        });
        Edge.term(4, "or (not in an EXPR) not as told (a DRAWER to 1023, a WORD to 9)", () -> {
            Edge.good("person 9 1023;");
            Edge.text("person 10 1;", 2, 7);
            Edge.text("lawyer 9999 1;", 2, 7);
            Edge.text("person 1 1024;", 2, 9);
            Edge.text("lawyer 1 9999;", 2, 9);
            Edge.good(TWO + "quarrel 0 1 99 9;");
            Edge.good(TWO + "quarrel 0 1 1 0;");
            Edge.text(TWO + "quarrel 0 1 0 1;", 2, 34);
            Edge.text(TWO + "quarrel 0 1 0000 1;", 2, 34);
            Edge.text(TWO + "quarrel 0 1 100 1;", 2, 34);
            Edge.text(TWO + "quarrel 0 1 9 10;", 2, 36);
            Edge.text(TWO + "quarrel 0 1 9 9999;", 2, 36);
            Edge.good("heats 9999;cuts 1024;");
        });
        Edge.term(4, "the first TOKEN of the 9th of PEOPLE", () -> {
            Edge.good(EIGHT);
            Edge.text(EIGHT + "person 1 1;", 2, 88);
            Edge.text(EIGHT + "\nlawyer", 2, 89);
            Edge.text("lawyer 1 1;".repeat(8) + "heats 1;person", 2, 96);
            Edge.text(EIGHT + "persons", 1, 88);
        });
        Edge.term(4, "of an EXPR within 6 others (a NUMBER, any word, a parenthesis)", () -> {
            goodExpr("(((((1)))))");
            goodExpr("(((((1)))))+(((((2)))))");
            goodExpr("(((((not heat)))))");
            for (String first : new String[] {"1", "12345", "heat", "x", "not", "or", "person", "(", "((("}) {
                badExpr("((((((" + first, 2, 6);
                badExpr("1+(1*(1<(not(1 or(1-(" + first, 2, 21);
            }
            badExpr("(((((1)))))+((((((2))))))", 2, 18);
        });
        Edge.term(4, "the seventh 'not' side by side", () -> {
            goodExpr("not not not not not not 1");
            goodExpr("not not not(not not not not not not 1)");
            goodExpr("not not not not not not 1 and not not not not not not 1");
            badExpr("not not not not not not not 1;", 2, 24);
            badExpr("not\nnot\nnot\nnot\nnot\nnot\nnot", 2, 24);
            badExpr("1 or not not not not not not not", 2, 29);
            badExpr("(not not not not not not not 1);", 2, 25);
            worth("not not not not not not 7", 1);
            worth("not not not not not 7", 0);
        });
    }

    private static void unknownOrTaken() {
        Edge.term(4, "3 any word where a PART must stand that is no VALUE", () -> {
            for (String value : new String[] {"heat", "nerve", "unlike", "many", "cut", "week"}) {
                goodExpr(value);
                badExpr(value + "s;", 3, 0);
                badExpr(value.substring(1) + ";", 3, 0);
            }
            for (String word : new String[] {"x", "person", "lawyer", "wed", "quarrel", "heats", "cuts", "or", "and"}) {
                badExpr(word, 3, 0);
                badExpr("1+" + word, 3, 2);
                badExpr("1 and " + word, 3, 6);
                badExpr("not " + word, 3, 4);
                badExpr("(" + word, 3, 1);
            }
            badExpr("1*not 1;", 3, 2);
            badExpr("1 x;", 1, 2);
            badExpr("1 person;", 1, 2);
        });
        Edge.term(4, "a PERSON who isn't told ahead", () -> {
            Edge.text("wed 0 1;" + TWO, 3, 4);
            Edge.text("person 1 1;wed 0 1;person 1 1;", 3, 17);
            Edge.text(TWO + "wed 2 0;", 3, 26);
            Edge.text(TWO + "quarrel 0 2 9 9;", 3, 32);
            Edge.text(TWO + "quarrel 9999 0 9 9;", 3, 30);
            Edge.text(EIGHT + "wed 7 8;", 3, 94);
            Edge.good(EIGHT + "wed 7 6;");
            Edge.good("person 1 1;person 1 1;wed 0 1;person 1 1;quarrel 2 0 1 1;");
        });
        Edge.term(4, "4 the second PERSON of a line who is the first one, has a QUARREL with that one (at"
            + " 'quarrel')", () -> {
            Edge.text(TWO + "wed 0 0;", 4, 28);
            Edge.text(TWO + "quarrel 1 1 9 9;", 4, 32);
            Edge.text(TWO + "quarrel 1 01 9 9;", 4, 32);
            Edge.text(TWO + "quarrel 0 1 9 9;quarrel 0 1 9 9;", 4, 48);
            Edge.text(TWO + "quarrel 0 1 9 9;quarrel 1 0 9 9;", 4, 48);
            Edge.good(TWO + "quarrel 0 1 9 9;wed 0 1;");
            Edge.good(THREE + "quarrel 0 1 9 9;quarrel 0 2 9 9;quarrel 1 2 9 9;");
        });
        Edge.term(4, "a PERSON who is WED already (at 'wed')", () -> {
            Edge.text(THREE + "wed 0 1;wed 0 2;", 4, 45);
            Edge.text(THREE + "wed 0 1;wed 1 0;", 4, 45);
            Edge.text(THREE + "wed 0 1;wed 2 0;", 4, 47);
            Edge.text(THREE + "wed 0 1;wed 2 1;", 4, 47);
            Edge.text(THREE + "wed 0 1;wed 1 9;", 4, 45);
            Edge.good(THREE + "wed 0 1;quarrel 0 1 9 9;quarrel 0 2 9 9;");
            Edge.good(FOUR + "wed 0 1;wed 2 3;");
        });
        Edge.term(4, "5 a second 'heats', 'cuts'.", () -> {
            Edge.text("heats 1;heats 1;", 5, 8);
            Edge.text("cuts 1;cuts 1;", 5, 7);
            Edge.text("heats 1;cuts 1;heats", 5, 15);
            Edge.text("cuts 1;heats 1; cuts x", 5, 16);
            Edge.good("cuts 1;heats 1;");
        });
    }

    // ---- weeks

    private static int heat(String town, int weeks) {
        WivesQuarrels x = of(town);
        x.weeks(weeks);
        return x.quarrel(0, 1, 0);
    }

    private static void aWeek() {
        Edge.term(8, "QUARRELS are in a row by their PEOPLE (by the lesser, then the other one). A WEEK:"
            + " QUARREL by QUARREL", () -> {
            WivesQuarrels x = of(Edge.allAgainstAll("1", "0") + "heats 9-many;");
            x.weeks(1);
            // Who has how many left, as the row goes on: 9 less 'many' ends a QUARREL of HEAT 1, if it is below 0.
            int[] left = {7, 7, 7, 7, 7, 7, 7, 7};
            for (int a = 0; a < 8; a++) {
                for (int b = a + 1; b < 8; b++) {
                    int heat = 1 + 9 - (left[a] + left[b] - 1);
                    is("heat of " + a + " and " + b, x.quarrel(a, b, 0), heat <= 0 ? NONE : heat);
                    left[a] -= heat <= 0 ? 1 : 0;
                    left[b] -= heat <= 0 ? 1 : 0;
                }
            }
        });
        Edge.term(8, "HEAT is more by what HEATS gives, kept to -9 to 9", () -> {
            String[] rules = {"0-9999", "0-10", "0-9", "0-8", "0", "8", "9", "10", "9999", told(MOST), told(LEAST)};
            int[] due = {-9, -9, -9, -8, 0, 8, 9, 9, 9, 9, -9};
            for (int i = 0; i < rules.length; i++) {
                is(rules[i], heat(TWO + "quarrel 0 1 50 0;heats " + rules[i] + ";", 1), 50 + due[i]);
            }
        });
        Edge.term(8, "(without it: 1, if 'nerve' is more than 9, else -1)", () -> {
            is("nerve 0", heat("person 0 0;person 0 0;quarrel 0 1 50 0;", 1), 49);
            is("nerve 9", heat("person 9 0;person 0 0;quarrel 0 1 50 0;", 1), 49);
            is("nerve 10", heat("person 9 0;person 1 0;quarrel 0 1 50 0;", 1), 51);
            is("nerve 18", heat("person 9 0;person 9 0;quarrel 0 1 50 0;", 1), 51);
        });
        Edge.term(8, "to 99 at most", () -> {
            is("from 90 by 9", heat(TWO + "quarrel 0 1 90 0;heats 9;", 1), 99);
            is("from 91 by 9", heat(TWO + "quarrel 0 1 91 0;heats 9;", 1), 99);
            is("from 99 by 9", heat(TWO + "quarrel 0 1 99 0;heats 9;", 20), 99);
            is("99 stays", heat(TWO + "quarrel 0 1 99 0;heats 0;", 1), 99);
            is("99 as a rule takes it", heat(TWO + "quarrel 0 1 91 0;heats 9-10*(heat=99);", 2), 98);
        });
        Edge.term(8, "is it 0 or less then, the QUARREL is over", () -> {
            is("to 1", heat(TWO + "quarrel 0 1 10 0;heats 0-9;", 1), 1);
            is("to 0", heat(TWO + "quarrel 0 1 9 0;heats 0-9;", 1), NONE);
            is("below 0", heat(TWO + "quarrel 0 1 1 0;heats 0-9;", 1), NONE);
            WivesQuarrels x = of(TWO + "quarrel 0 1 1 0;heats 9*week-1;");
            x.weeks(2);
            is("it doesn't begin again", x.count(3), 0);
            is("no 'cut' is left", x.cuts(), 0);
        });
    }

    private static int cut(String town, int weeks) {
        WivesQuarrels x = of(town);
        x.weeks(weeks);
        return x.quarrel(0, 1, 2);
    }

    private static void aCut() {
        Edge.term(8, "else, if CUTS gives more than 0 (without it: if HEAT is 20 or more), they CUT each other"
            + " in it", () -> {
            String two = TWO + "quarrel 0 1 50 0;heats 0;";
            is("1", cut(two + "cuts 1;", 1), 1);
            is("0", cut(two + "cuts 0;", 1), 0);
            is("-1", cut(two + "cuts 0-1;", 1), 0);
            is("most", cut(two + "cuts " + told(MOST) + ";", 1), 1);
            is("least", cut(two + "cuts " + told(LEAST) + ";", 1), 0);
            is("by HEAT as it is then", cut(TWO + "quarrel 0 1 50 0;heats 1;cuts heat=51;", 1), 1);
            is("19 that is 20 then", cut(TWO + "quarrel 0 1 19 0;heats 1;", 1), 1);
            is("20 that is 19 then", cut(TWO + "quarrel 0 1 20 0;heats 0-1;", 1), 0);
            is("18 that is 19 then", cut(TWO + "quarrel 0 1 18 0;heats 1;", 1), 0);
            is("20 that stays", cut(TWO + "quarrel 0 1 20 0;heats 0;", 1), 1);
            is("99", cut(TWO + "quarrel 0 1 99 0;heats 9;", 1), 1);
        });
        Edge.term(8, "('cut' is 1 more, 99 at most)", () -> {
            WivesQuarrels x = of(TWO + "quarrel 0 1 50 0;heats 0;cuts 9999;");
            int[] due = {20, 40, 60, 80, 99, 99};
            for (int many : due) {
                x.weeks(20);
                is("'cut'", x.quarrel(0, 1, 2), many);
            }
            is("heat and word stay", x.quarrel(0, 1, 0) * 10 + x.quarrel(0, 1, 1), 500);
        });
        Edge.term(8, "('many' counts those that aren't over then.)", () -> {
            is("one is over ahead of it", manyCounted("quarrel 0 1 1 0;quarrel 0 2 50 0;"), 49);
            is("one is still there", manyCounted("quarrel 1 2 1 0;quarrel 0 2 50 0;"), 48);
            WivesQuarrels x = of(THREE + "quarrel 0 1 1 0;quarrel 0 2 50 0;heats 0-1;cuts 2-many;");
            x.weeks(1);
            is("CUTS counts it so, too", x.quarrel(0, 2, 2), 1);
        });
        Edge.term(8, "The WEEK is one more then.", () -> {
            is("'week' in HEATS is that ahead", heat(TWO + "quarrel 0 1 50 0;heats 9*week;", 1), 50);
            is("'week' in HEATS", heat(TWO + "quarrel 0 1 50 0;heats 9*week;", 2), 59);
            is("'week' in CUTS is that ahead", cut(TWO + "quarrel 0 1 50 0;cuts week;", 1), 0);
            is("'week' in CUTS", cut(TWO + "quarrel 0 1 50 0;cuts week;", 2), 1);
            WivesQuarrels x = of("");
            is("of nobody, too", x.weeks(1), 1);
        });
    }

    private static int manyCounted(String quarrels) {
        WivesQuarrels x = of(THREE + quarrels + "heats 0-many;");
        x.weeks(1);
        return x.quarrel(0, 2, 0);
    }

    // ---- deaths, weddings, settlings

    private static void death() {
        Edge.term(9, "One DIES: is one WED, the other one is the HEIR (neither is WED any more)", () -> {
            for (int first = 0; first <= 1; first++) {
                WivesQuarrels x = dead(THREE + "wed 0 1;quarrel 0 2 9 9;quarrel 1 2 9 9;", first);
                is("the dead", x.person(first, 2), NONE);
                is("the heir", x.person(1 - first, 2), NONE);
                is("the heir lives", x.person(1 - first, 3), 1);
                is("the heir's", x.quarrel(1 - first, 2, 0), 18);
                is("the heir can be wed", x.wed(1 - first, 2), true);
            }
        });
        Edge.term(9, "all WORDS of the DRAWER are in the HEIR's, too", () -> {
            is("none into none", dead("person 1 0;person 1 0;wed 0 1;", 0).person(1, 1), 0);
            is("all into none", dead("person 1 1023;person 1 0;wed 0 1;", 0).person(1, 1), 1023);
            is("some into some", dead("person 1 513;person 1 3;wed 0 1;", 0).person(1, 1), 515);
            is("all into all", dead("person 1 1023;person 1 1023;wed 0 1;", 1).person(0, 1), 1023);
            is("the dead's", dead("person 1 513;person 1 3;wed 0 1;", 0).person(0, 1), 513);
            is("nobody else's", dead("person 1 513;person 1 3;person 1 0;wed 0 1;", 0).person(2, 1), 0);
        });
        Edge.term(9, "each QUARREL of the dead with another one is the HEIR's with that one:", () -> {
            StringBuilder b = new StringBuilder(EIGHT + "wed 3 4;");
            for (int p = 0; p < 8; p++) {
                if (p != 3 && p != 4) {
                    b.append("quarrel 3 ").append(p).append(' ').append(10 + p).append(' ').append(p).append(';');
                }
            }
            WivesQuarrels x = dead(b.toString(), 3);
            is("how many", x.count(3), 6);
            is("the heir's", x.person(4, 5), 231);
            for (int p = 0; p < 8; p++) {
                is("heat with " + p, x.quarrel(4, p, 0), p == 3 || p == 4 ? NONE : 10 + p);
                is("word with " + p, x.quarrel(p, 4, 1), p == 3 || p == 4 ? NONE : p);
            }
            is("the dead's", x.person(3, 5), 0);
        });
        Edge.term(9, "HEAT added to that of one there is already (99 at most; WORD and 'cut' of that one stay)", () -> {
            int[][] heats = {{49, 49, 98}, {49, 50, 99}, {50, 50, 99}, {99, 99, 99}, {1, 1, 2}, {99, 1, 99}};
            for (int[] h : heats) {
                WivesQuarrels x = of(THREE + "wed 0 1;quarrel 0 2 " + h[0] + " 8;quarrel 1 2 " + h[1]
                    + " 7;heats 0;cuts nerve=7;");
                x.weeks(3);
                x.die(0);
                is("heat", x.quarrel(1, 2, 0), h[2]);
                is("word", x.quarrel(1, 2, 1), 7);
                is("'cut'", x.quarrel(1, 2, 2), 3);
            }
        });
    }

    private static void deathWithoutHeir() {
        Edge.term(9, "else as it is (WORD, HEAT; 'cut' 0)", () -> {
            for (int heat : new int[] {1, 99}) {
                WivesQuarrels x = of(THREE + "wed 0 1;quarrel 0 2 " + heat + " 9;heats 0;cuts 1;");
                x.weeks(20);
                is("'cut' ahead", x.quarrel(0, 2, 2), 20);
                is("one quarrel", x.die(0), 1);
                is("word", x.quarrel(1, 2, 1), 9);
                is("heat", x.quarrel(1, 2, 0), heat);
                is("'cut'", x.quarrel(1, 2, 2), 0);
            }
        });
        Edge.term(9, "one of the dead and the HEIR is over.", () -> {
            WivesQuarrels x = of(THREE + "wed 0 1;quarrel 0 1 50 5;quarrel 1 2 9 9;");
            is("left", x.die(0), 1);
            is("it is over", x.quarrel(0, 1, 0), NONE);
            is("the heir's stays", x.quarrel(1, 2, 0), 9);
            is("with nobody else", x.person(1, 5), 4);
        });
        Edge.term(9, "Without HEIR all of them are over.", () -> {
            WivesQuarrels x = of(Edge.allAgainstAll("9", "9"));
            is("seven are over", x.die(7), 21);
            is("the dead's", x.person(7, 5), 0);
            is("drawers stay", dead("person 1 1023;person 1 1;", 0).person(1, 1), 1);
            WivesQuarrels y = of(THREE + "wed 0 1;quarrel 0 2 9 9;");
            y.die(0);
            is("the heir of one has none", y.die(1), 0);
        });
    }

    private static void wedAndSettled() {
        Edge.term(10, "Two WED (by an ACT, or a DRAW): a QUARREL of both is over (in a TEXT two who are WED may"
            + " have one).", () -> {
            WivesQuarrels x = of(THREE + "quarrel 0 1 50 5;quarrel 1 2 50 5;quarrel 0 2 50 5;");
            x.wed(1, 0);
            is("it is over", x.quarrel(0, 1, 0), NONE);
            is("the others stay", x.count(3), 2);
            is("in a text ahead", of(TWO + "wed 0 1;quarrel 0 1 50 5;").quarrel(0, 1, 0), 50);
            is("in a text behind", of(TWO + "quarrel 0 1 50 5;wed 0 1;").quarrel(0, 1, 0), 50);
            is("it goes on", of(TWO + "quarrel 0 1 50 5;wed 0 1;").then(0, 1, 1, 0), 49);
            WivesQuarrels y = of(TWO + "quarrel 0 1 50 5;");
            is("by a draw", y.years(seed(8, 2, 2, 0, 2, 1), 1, 2), 0);
            is("by a draw", y.years(seed(8, 2, 2, 1, 2, 0), 1, 2), 0);
        });
        Edge.term(11, "A QUARREL is SETTLED by its WORD, if that is in the DRAWER of one of both, or of a"
            + " lawyer who lives, and is over.", () -> {
            for (int word : new int[] {0, 9}) {
                int bit = 1 << word;
                is("the lesser's", settled(bit, 0, "person", 0, word), word);
                is("the other one's", settled(0, bit, "person", 0, word), word);
                is("a lawyer's", settled(0, 0, "lawyer", bit, word), word);
                is("all others but it", settled(1023 - bit, 1023 - bit, "lawyer", 1023 - bit, word), NONE);
                is("a third's", settled(0, 0, "person", 1023, word), NONE);
            }
            WivesQuarrels x = dead("person 1 0;person 1 0;lawyer 1 1023;quarrel 0 1 9 9;", 2);
            is("a dead lawyer's", x.settle(0, 1), NONE);
            WivesQuarrels y = dead("person 1 0;person 1 0;lawyer 1 512;person 1 0;wed 2 3;quarrel 0 1 9 9;", 2);
            is("a lawyer's heir is none", y.settle(0, 1), NONE);
            WivesQuarrels z = dead("person 1 0;person 1 0;lawyer 1 0;person 1 512;wed 2 3;quarrel 0 1 9 9;", 3);
            is("a lawyer who is heir", z.settle(0, 1), 9);
            is("it is over", z.count(3), 0);
            WivesQuarrels own = of("lawyer 1 512;person 1 0;quarrel 0 1 9 9;");
            is("one of both is a lawyer", own.settle(0, 1), 9);
        });
    }

    private static int settled(int lesser, int other, String kind, int third, int word) {
        WivesQuarrels x = of("person 1 " + lesser + ";person 1 " + other + ";" + kind + " 1 " + third
            + ";quarrel 0 1 9 " + word + ";");
        int got = x.settle(0, 1);
        is("left", x.count(3), got == NONE ? 1 : 0);
        return got;
    }

    // ---- acts

    private static void acts() {
        Edge.term(13, "ACTS (at most 40 are kept, the latest ones)", () -> {
            WivesQuarrels x = of(TWO);
            for (int i = 1; i <= 100; i++) {
                x.weeks(1);
                is("kept", x.count(8), Math.min(i, 40));
            }
            for (int i = 39; i >= 0; i--) {
                is("left", x.undo(), i);
                is("the week", x.count(2), 60 + i);
            }
            is("no more", x.undo(), NONE);
            is("the week", x.count(2), 60);
        });
        Edge.term(8, "WEEKS go by (1 to 20)", () -> {
            is("1", of("").weeks(1), 1);
            is("20", of("").weeks(20), 20);
            is("0", of("").weeks(0), NONE);
            is("21", of("").weeks(21), NONE);
            WivesQuarrels x = of("");
            x.weeks(20);
            is("one act", x.undo(), 0);
            is("all of them", x.count(2), 0);
        });
        Edge.term(13, "They are UNDONE, the last one first.", () -> {
            WivesQuarrels x = of(TWO);
            x.pick(0, 1, 50, 1);
            x.weeks(20);
            x.settle(0, 1);
            x.wed(0, 1);
            x.die(1);
            is("four left", x.undo(), 4);
            is("lives", x.person(1, 3), 1);
            is("wed again", x.person(0, 2), 1);
            is("three left", x.undo(), 3);
            is("not wed", x.person(0, 2), NONE);
            is("two left", x.undo(), 2);
            is("heat", x.quarrel(0, 1, 0), 30);
            is("cut", x.quarrel(0, 1, 2), 20);
            is("one left", x.undo(), 1);
            is("heat", x.quarrel(0, 1, 0), 50);
            is("cut", x.quarrel(0, 1, 2), 0);
            is("none left", x.undo(), 0);
            is("no quarrel", x.count(3), 0);
            x.weeks(1);
            is("another one can be", x.undo(), 0);
        });
    }

    private static void actsRefused() {
        Edge.term(9, "one who lives DIES", () -> {
            WivesQuarrels x = dead(TWO, 0);
            is("one who doesn't", x.die(0), NONE);
            is("one who does", x.die(1), 0);
            is("acts", x.count(8), 2);
        });
        Edge.term(10, "two who live, and aren't WED, are WED", () -> {
            WivesQuarrels x = dead("person 1 1;".repeat(5) + "wed 0 1;", 2);
            is("one is dead", x.wed(2, 3), false);
            is("one is dead", x.wed(3, 2), false);
            is("one is wed", x.wed(0, 3), false);
            is("one is wed", x.wed(3, 1), false);
            is("both are wed", x.wed(1, 0), false);
            is("one alone", x.wed(3, 3), false);
            is("two", x.wed(3, 4), true);
        });
        Edge.term(11, "a QUARREL is SETTLED;", () -> {
            WivesQuarrels x = of(TWO + "quarrel 0 1 9 1;");
            is("it is", x.settle(0, 1), 1);
            is("none is left", x.settle(0, 1), NONE);
            is("acts", x.count(8), 1);
            is("refused", x.count(12), 1);
        });
        Edge.term(12, "a QUARREL is PICKED by two who live, and have none, and aren't WED to each other (HEAT,"
            + " WORD).", () -> {
            WivesQuarrels x = dead("person 1 1;".repeat(6) + "wed 0 1;wed 3 4;quarrel 0 3 9 9;", 2);
            is("one is dead", x.pick(2, 0, 9, 9), NONE);
            is("one is dead", x.pick(0, 2, 9, 9), NONE);
            is("they have one", x.pick(3, 0, 9, 9), NONE);
            is("wed to each other", x.pick(1, 0, 9, 9), NONE);
            is("one alone", x.pick(5, 5, 9, 9), NONE);
            is("both are wed, to others", x.pick(1, 4, 1, 0), 2);
            is("one is wed", x.pick(0, 5, 99, 9), 3);
            is("heat, word", x.quarrel(5, 0, 0) * 10 + x.quarrel(5, 0, 1), 999);
        });
    }

    // ---- what is ahead

    private static void ahead() {
        Edge.plainTerm("(If only WEEKS go by, from now on:)");
        Edge.term(14, "THEN: HEAT of a QUARREL behind so many WEEKS (0 to 60; 0, if it is over); 'cut' then.", () -> {
            WivesQuarrels x = of(TWO + "quarrel 0 1 60 0;");
            is("now", x.then(0, 1, 0, 0), 60);
            is("behind 59", x.then(0, 1, 59, 0), 1);
            is("over", x.then(0, 1, 60, 0), 0);
            is("'cut' behind 40", x.then(0, 1, 40, 1), 40);
            is("'cut' behind 59", x.then(0, 1, 59, 1), 40);
            is("'cut' when over", x.then(0, 1, 60, 1), 0);
            Edge.illegal(() -> x.then(0, 1, 61, 0), () -> x.then(0, 1, -1, 0));
            x.weeks(20);
            is("from now on", x.then(0, 1, 0, 0), 40);
            is("from now on", x.then(0, 1, 39, 0), 1);
        });
        Edge.term(15, "OVER: behind how many WEEKS (1 to 60) a QUARREL is over first; none.", () -> {
            is("1", of(TWO + "quarrel 0 1 1 0;").over(0, 1), 1);
            is("60", of(TWO + "quarrel 0 1 60 0;").over(0, 1), 60);
            is("61", of(TWO + "quarrel 0 1 61 0;").over(0, 1), NONE);
            is("never", of(TWO + "quarrel 0 1 61 0;heats 1;").over(0, 1), NONE);
            is("the other one goes on", of(THREE + "quarrel 0 1 9 0;quarrel 0 2 3 0;").over(0, 2), 3);
        });
        Edge.term(16, "PEACE: behind how many WEEKS (0 to 60) there is no QUARREL first; none.", () -> {
            is("0", of("").peace(), 0);
            is("1", of(TWO + "quarrel 0 1 1 0;").peace(), 1);
            is("60", of(THREE + "quarrel 0 1 60 0;quarrel 0 2 3 0;").peace(), 60);
            is("61", of(THREE + "quarrel 0 1 61 0;quarrel 0 2 3 0;").peace(), NONE);
            WivesQuarrels x = of(TWO + "quarrel 0 1 61 0;");
            x.weeks(1);
            is("from now on", x.peace(), 60);
        });
    }

    private static void hottestAndBitter() {
        Edge.term(17, "HOTTEST behind so many WEEKS (0 to 60; of like ones the first); none.", () -> {
            is("of like ones", of(Edge.allAgainstAll("99", "0")).later(0, 0), 1);
            is("of like ones", of(FOUR + "quarrel 2 3 9 0;quarrel 1 3 9 0;quarrel 0 3 8 0;").later(0, 0), 13);
            is("behind so many", of(THREE + "quarrel 0 1 9 0;quarrel 1 2 5 0;heats nerve-8;").later(4, 0), 1);
            is("another one then", of(THREE + "quarrel 0 1 9 0;quarrel 1 2 5 0;heats 8-nerve;").later(4, 0), 12);
            is("like ones then", of(THREE + "quarrel 0 1 9 0;quarrel 1 2 5 0;heats 8-nerve;").later(2, 0), 1);
            WivesQuarrels x = of(TWO + "quarrel 0 1 60 0;");
            is("59", x.later(59, 0), 1);
            is("60: none", x.later(60, 0), NONE);
            Edge.illegal(() -> x.later(61, 0), () -> x.later(-1, 0));
        });
        Edge.term(17, "LEFT then: how many QUARRELS there are.", () -> {
            WivesQuarrels x = of(THREE + "quarrel 0 1 60 0;quarrel 0 2 1 0;");
            is("now", x.later(0, 1), 2);
            is("behind 1", x.later(1, 1), 1);
            is("behind 59", x.later(59, 1), 1);
            is("behind 60", x.later(60, 1), 0);
        });
        Edge.term(17, "BITTER: who has most HEAT in all QUARRELS together behind so many WEEKS (0 to 60; of"
            + " like ones the least); none lives.", () -> {
            is("of like ones", of(Edge.allAgainstAll("99", "0")).later(60, 2), 0);
            is("of like ones", of(FOUR + "quarrel 2 3 9 0;").later(0, 2), 2);
            is("all together", of(FOUR + "quarrel 0 1 9 0;quarrel 1 2 9 0;quarrel 3 2 8 0;").later(0, 2), 1);
            is("behind so many", of(FOUR + "quarrel 0 1 9 0;quarrel 2 3 5 0;").later(8, 2), 0);
            is("behind so many, over", of(FOUR + "quarrel 0 1 9 0;quarrel 2 3 50 0;").later(49, 2), 2);
            is("all 0", of(FOUR + "quarrel 2 3 60 0;").later(60, 2), 0);
            is("who lives", dead(FOUR, 0).later(60, 2), 1);
            is("none lives", dead(TWO, 0, 1).later(60, 2), NONE);
        });
    }

    private static void heirs() {
        Edge.term(18, "COMES INTO of one who lives: how many QUARRELS, and how much HEAT, all together, the"
            + " HEIR would have, DIED one now (without HEIR 0).", () -> {
            WivesQuarrels x = of(FOUR + "wed 0 1;quarrel 0 2 99 1;quarrel 1 2 99 2;quarrel 1 3 1 1;quarrel 0 1 50 1;");
            int[] before = Edge.state(x);
            is("how many", x.comesInto(0, 0), 2);
            is("heat, 99 of one at most", x.comesInto(0, 1), 100);
            is("without heir", x.comesInto(2, 0), 0);
            is("without heir", x.comesInto(3, 1), 0);
            Edge.same("comesInto", x, before);
            x.die(2);
            is("the dead", x.comesInto(2, 0), NONE);
            is("how many then", x.comesInto(0, 0), 1);
            is("just that with the heir", of(TWO + "wed 0 1;quarrel 0 1 50 1;").comesInto(0, 0), 0);
        });
    }

    private static void campsAndTables() {
        Edge.term(19, "CAMPS: whether those who live can be parted in two, so that each QUARREL is between"
            + " both; the one part (bits): of all who are held together by QUARRELS, one by the next, the least"
            + " number is in it (so are those who have none); none, if they can't.", () -> {
            is("nobody", of("").camps(), 0);
            is("those who have none", of(FOUR).camps(), 15);
            is("the least of each", of(EIGHT + "quarrel 7 6 1 1;quarrel 5 2 1 1;quarrel 4 3 1 1;").camps(), 79);
            is("one by the next", of(EIGHT + "quarrel 0 7 1 1;quarrel 7 1 1 1;quarrel 1 6 1 1;quarrel 6 2 1 1;"
                + "quarrel 2 5 1 1;quarrel 5 3 1 1;quarrel 3 4 1 1;").camps(), 15);
            is("the least is last told", of(THREE + "quarrel 2 1 1 1;quarrel 2 0 1 1;").camps(), 3);
            is("a three", of(FOUR + "quarrel 1 2 1 1;quarrel 2 3 1 1;quarrel 1 3 1 1;").camps(), NONE);
            String three = FOUR + "quarrel 1 2 1 1;quarrel 2 3 1 1;quarrel 1 3 1 1;";
            is("a three without one who died", dead(three, 1).camps(), 5);
            is("none lives", dead(TWO, 0, 1).camps(), 0);
        });
        Edge.term(5, "ASKED: the most who live of whom no two have a QUARREL: of like ones the least as bits.", () -> {
            is("nobody", of("").count(7), 0);
            is("all", of(EIGHT).count(7), 255);
            is("like ones", of(Edge.allAgainstAll("1", "1")).count(7), 1);
            is("the least as bits", of(FOUR + "quarrel 0 1 1 1;quarrel 2 3 1 1;").count(7), 5);
            is("the most ahead of the least", of(THREE + "quarrel 0 1 1 1;quarrel 0 2 1 1;").count(7), 6);
            is("who live", dead(FOUR, 0).count(7), 14);
            is("none lives", dead(TWO, 0, 1).count(7), 0);
        });
        Edge.term(5, "TABLES: the fewest at which all who live can sit, so that no two at one have a QUARREL.", () -> {
            is("nobody", of("").count(6), 0);
            is("one", of(EIGHT).count(6), 1);
            is("eight", of(Edge.allAgainstAll("1", "1")).count(6), 8);
            is("seven live", dead(Edge.allAgainstAll("1", "1"), 3).count(6), 7);
            is("two in a row", of(FOUR + "quarrel 0 3 1 1;quarrel 3 2 1 1;quarrel 2 1 1 1;").count(6), 2);
            // Who asks the most to the first table would need three.
            is("two camps", of(EIGHT + crown()).count(6), 2);
            is("none lives", dead(TWO, 0, 1).count(6), 0);
        });
        Edge.term(20, "A GO-BETWEEN from one to another one: the fewest steps, each from one who lives to"
            + " another one without a QUARREL of both (both live, too); none.", () -> {
            WivesQuarrels x = of(FOUR + "quarrel 0 2 1 1;quarrel 0 3 1 1;quarrel 1 3 1 1;");
            is("one step", x.between(0, 1), 1);
            is("two steps", x.between(0, 2), 2);
            is("three steps", x.between(0, 3), 3);
            is("three steps back", x.between(3, 0), 3);
            x.die(2);
            is("not by the dead", x.between(0, 3), NONE);
            is("to the dead", x.between(1, 2), NONE);
            is("none", of(Edge.allAgainstAll("1", "1")).between(0, 7), NONE);
        });
    }

    /** 0, 1, 2, 3 against 4, 5, 6, 7, but for each one's opposite. */
    private static String crown() {
        StringBuilder b = new StringBuilder();
        for (int p = 0; p < 4; p++) {
            for (int q = 4; q < 8; q++) {
                if (q != p + 4) {
                    b.append("quarrel ").append(p).append(' ').append(q).append(" 1 1;");
                }
            }
        }
        return b.toString();
    }

    private static void wordsAndDeaths() {
        Edge.term(5, "WORDS that are needed for all QUARRELS (bits).", () -> {
            is("none", of(EIGHT).count(5), 0);
            is("the first", of(TWO + "quarrel 0 1 9 0;").count(5), 1);
            is("the last", of(TWO + "quarrel 0 1 9 9;").count(5), 512);
            WivesQuarrels x = of(THREE + "quarrel 0 1 9 9;quarrel 0 2 1 0;quarrel 1 2 5 9;");
            is("two", x.count(5), 513);
            x.weeks(1);
            is("one is over", x.count(5), 512);
        });
        Edge.term(21, "DRAWERS: the fewest PEOPLE who live in whose DRAWERS all these are, all together: of as"
            + " few the least as bits; none.", () -> {
            is("none is needed", of(TWO).drawers(), 0);
            is("nobody", of("").drawers(), 0);
            String two = "quarrel 0 1 9 0;quarrel 0 2 9 9;";
            is("of as few the least", of("person 1 513;person 1 513;person 1 513;" + two).drawers(), 1);
            is("fewer ahead of the least", of("person 1 1;person 1 512;person 1 513;" + two).drawers(), 4);
            is("together", of("person 1 0;person 1 1;person 1 512;" + two).drawers(), 6);
            is("none", of("person 1 0;person 1 1;person 1 511;" + two).drawers(), NONE);
            is("who live", dead("person 1 0;person 1 1;person 1 512;person 1 513;" + two, 3).drawers(), 6);
            is("none who lives", dead("person 1 0;person 1 0;person 1 0;person 1 513;" + two, 3).drawers(), NONE);
        });
        Edge.term(22, "DEATHS: by the fewest who would DIE now, one behind the other by number, there is no"
            + " QUARREL: of as few the least as bits.", () -> {
            is("none", of(TWO).deaths(), 0);
            is("the least", of(FOUR + "quarrel 2 3 1 1;").deaths(), 4);
            is("the fewest ahead of the least", of(THREE + "quarrel 0 2 1 1;quarrel 1 2 1 1;").deaths(), 4);
            is("an heir goes on", of(THREE + "wed 0 1;quarrel 0 2 1 1;").deaths(), 4);
            is("all of a couple", of(FOUR + "wed 0 1;wed 2 3;quarrel 0 2 1 1;").deaths(), 3);
            is("of the couple and the heir", of(TWO + "wed 0 1;quarrel 0 1 1 1;").deaths(), 1);
            // 0 dies, 2 comes into it, and dies then without heir.
            is("one behind the other", of(FOUR + "wed 1 3;wed 0 2;quarrel 1 0 5 5;").deaths(), 5);
            is("all but one", of(Edge.allAgainstAll("1", "1")).deaths(), 127);
            is("who live", dead(FOUR + "quarrel 2 3 1 1;", 0).deaths(), 4);
        });
    }

    private static void friendsAndMatches() {
        Edge.term(23, "FRIENDS of one: others who live, with whom one has no QUARREL, and who have one with"
            + " somebody with whom one has one (bits).", () -> {
            is("none", of(FOUR).friends(0), 0);
            WivesQuarrels x = of(EIGHT + "quarrel 0 1 1 1;quarrel 1 2 1 1;quarrel 2 3 1 1;"
                + "quarrel 1 7 1 1;quarrel 0 7 1 1;");
            is("not oneself, nor a foe", x.friends(0), 4);
            is("of the foe", x.friends(1), 8);
            is("of the next", x.friends(2), 129);
            is("of 7", x.friends(7), 4);
            is("without quarrels", x.friends(5), 0);
            x.die(2);
            is("who live", x.friends(0), 0);
            is("of the dead", x.friends(2), 0);
        });
        Edge.term(24, "SPARED by one who lives: how many fewer QUARRELS there would be, DIED one now.", () -> {
            WivesQuarrels x = of(FOUR + "wed 0 1;quarrel 0 2 9 9;quarrel 0 3 9 9;quarrel 1 3 9 9;quarrel 0 1 9 9;");
            int[] before = Edge.state(x);
            is("with an heir", x.spared(0), 2);
            is("with an heir", x.spared(1), 2);
            is("without", x.spared(2), 1);
            is("without", x.spared(3), 2);
            Edge.same("spared", x, before);
            is("none", of(TWO).spared(1), 0);
            is("the heir has all of them", of(THREE + "wed 0 1;quarrel 0 2 9 9;").spared(0), 0);
            is("the dead", dead(TWO, 1).spared(1), NONE);
        });
        Edge.term(25, "A MATCH for one who lives and isn't WED: the other such one whose QUARRELS (but one of"
            + " both) have least HEAT together (of like ones the least); none.", () -> {
            is("like ones", of(FOUR).match(3), 0);
            is("not oneself", of(FOUR).match(0), 1);
            is("but one of both", of(FOUR + "quarrel 0 1 99 1;quarrel 2 3 1 1;").match(0), 1);
            is("one of both counts for another", of(FOUR + "quarrel 0 1 99 1;quarrel 2 3 1 1;").match(3), 2);
            is("least heat", of(FOUR + "quarrel 1 2 9 1;quarrel 1 3 1 1;").match(0), 3);
            is("one who is wed is none", of(FOUR + "wed 1 2;quarrel 1 3 9 1;").match(0), 3);
            is("for one who is wed", of(FOUR + "wed 1 2;").match(1), NONE);
            is("the dead is none", dead(FOUR, 1).match(0), 2);
            is("for the dead", dead(FOUR, 1).match(1), NONE);
            is("none", dead(TWO, 1).match(0), NONE);
        });
        Edge.term(26, "READY: how many QUARRELS can be SETTLED now.", () -> {
            is("none", of(EIGHT).ready(), 0);
            is("all", of(Edge.allAgainstAll("1", "0")).ready(), 28);
            is("not one", of(Edge.allAgainstAll("1", "9")).ready(), 0);
            is("by a lawyer", of("person 1 0;person 1 0;lawyer 1 1;quarrel 0 1 9 0;quarrel 0 2 9 1;").ready(), 1);
            is("not by a dead one", dead("person 1 0;person 1 0;lawyer 1 1;quarrel 0 1 9 0;", 2).ready(), 0);
        });
    }

    private static void loneliness() {
        Edge.term(27, "MILDEST: who lives with least NERVE (of like ones the least); none.", () -> {
            is("like ones", of("person 9 0;person 0 0;person 0 0;").mildest(), 1);
            is("like ones of 9", of("person 9 0;person 9 0;").mildest(), 0);
            is("who lives", dead("person 9 0;person 0 0;person 0 0;", 1).mildest(), 2);
            is("none", of("").mildest(), NONE);
            is("none lives", dead(TWO, 0, 1).mildest(), NONE);
        });
        Edge.term(28, "COLDEST behind so many WEEKS (0 to 60), if only these go by: who lives with most 'cut'"
            + " in all QUARRELS that there are then, together (of like ones the least); none.", () -> {
            WivesQuarrels x = of(FOUR + "quarrel 1 2 60 0;quarrel 1 3 30 0;heats 0-1;cuts 1;");
            is("now", x.coldest(0), 0);
            is("behind 1: together", x.coldest(1), 1);
            is("behind 59: like ones", x.coldest(59), 1);
            is("behind 60: over", x.coldest(60), 0);
            Edge.illegal(() -> x.coldest(61), () -> x.coldest(-1));
            WivesQuarrels y = of(FOUR + "quarrel 0 1 5 0;quarrel 2 3 50 0;cuts 1;");
            is("like ones", y.coldest(4), 0);
            is("those that there are then", y.coldest(5), 2);
            is("with each other one", of(FOUR + "quarrel 0 3 50 0;quarrel 2 3 50 0;cuts 1;").coldest(1), 3);
            is("with each other one", of(EIGHT + "quarrel 2 7 50 0;quarrel 0 2 50 0;cuts 1;").coldest(1), 2);
            is("who lives", dead(FOUR, 0).coldest(0), 1);
            is("none", of("").coldest(60), NONE);
        });
        Edge.term(29, "TRIPLES: how many threes of PEOPLE there are who all have QUARRELS with each other.", () -> {
            is("none", of(THREE + "quarrel 0 1 1 1;quarrel 0 2 1 1;").triples(), 0);
            is("one", of(THREE + "quarrel 0 1 1 1;quarrel 0 2 1 1;quarrel 1 2 1 1;").triples(), 1);
            is("all", of(Edge.allAgainstAll("1", "1")).triples(), 56);
            is("two camps", of(EIGHT + crown()).triples(), 0);
        });
        Edge.term(30, "ALONE: who lives, and has a QUARREL with everybody else who lives (bits; one who lives"
            + " alone, too).", () -> {
            is("nobody", of("").alone(), 0);
            is("one alone", of("person 1 1;").alone(), 1);
            is("none", of(TWO).alone(), 0);
            is("all", of(Edge.allAgainstAll("1", "1")).alone(), 255);
            is("one", of(THREE + "quarrel 2 0 1 1;quarrel 2 1 1 1;").alone(), 4);
            is("everybody who lives", dead(THREE + "quarrel 2 0 1 1;", 1).alone(), 5);
            is("the last", dead(THREE + "quarrel 2 0 1 1;", 0, 1).alone(), 4);
            is("none lives", dead(TWO, 0, 1).alone(), 0);
        });
    }

    // ---- what is seen

    private static void seen() {
        Edge.term(35, "SEEN (at most 8): HEAT (0 to 99; 0: over) of a QUARREL of two behind so many WEEKS (0 to"
            + " 20).", () -> {
            WivesQuarrels x = of(TWO + "quarrel 0 1 20 0;");
            is("over behind 20", x.see(0, 1, 20, 0), 1);
            is("it is so", x.nerved(2), 1);
            is("1 behind 19", x.see(1, 0, 19, 1), 2);
            is("now", x.see(1, 0, 0, 20), 3);
            is("it is so", x.nerved(2), 1);
            is("99", x.see(0, 1, 0, 99), 4);
            is("it isn't so", x.nerved(2), 0);
            for (int i = 5; i <= 8; i++) {
                is("seen", x.see(0, 1, 0, 20), i);
            }
            is("the ninth", x.see(0, 1, 0, 20), NONE);
            is("weeks 21", of(TWO).see(0, 1, 21, 0), NONE);
            is("heat 100", of(TWO).see(0, 1, 0, 100), NONE);
            WivesQuarrels y = of(THREE + "quarrel 0 1 20 0;");
            y.see(0, 2, 0, 0);
            is("one that isn't there is 0", y.nerved(2), 1);
            y.see(0, 2, 20, 1);
            is("and isn't 1", y.nerved(2), 0);
        });
        Edge.term(36, "NERVED: PEOPLE who live and NERVES (0 to 9, another one than one has) by one of which"
            + " from now on all SEEN would be so: how many; the first (10 by who, and the NERVE); whether it is"
            + " so without (1).", () -> {
            String rule = "quarrel 0 1 50 0;heats nerve-9;";
            for (int nerve = 0; nerve <= 9; nerve++) {
                WivesQuarrels x = of("person 9 0;person 0 0;" + rule);
                x.see(0, 1, 1, 50 + nerve - 9);
                // 0 has that NERVE, or nobody changes; 1 can but add to 9.
                is("how many", x.nerved(0), nerve == 9 ? 0 : 1);
                is("the first", x.nerved(1), nerve == 9 ? NONE : nerve);
                is("without", x.nerved(2), nerve == 9 ? 1 : 0);
            }
            for (int nerve = 1; nerve <= 9; nerve++) {
                WivesQuarrels x = of("person 9 0;person 0 0;" + rule);
                x.see(0, 1, 1, 50 + nerve);
                is("how many", x.nerved(0), 1);
                is("the first", x.nerved(1), 10 + nerve);
            }
            for (int who = 0; who < 8; who++) {
                for (int nerve = 0; nerve <= 9; nerve++) {
                    int one = (who + 1) % 8;
                    int other = (who + 2) % 8;
                    WivesQuarrels x = of("person 5 0;".repeat(8) + "quarrel " + who + " " + one + " 50 0;quarrel "
                        + who + " " + other + " 50 0;heats nerve-10;");
                    x.see(who, one, 1, 45 + nerve);
                    x.see(other, who, 1, 45 + nerve);
                    // With 5 it is so without, and by each other NERVE of the five who are in neither.
                    is("how many", x.nerved(0), nerve == 5 ? 45 : 1);
                    if (nerve != 5) {
                        is("who, and the nerve", x.nerved(1), 10 * who + nerve);
                    }
                }
            }
            WivesQuarrels all = of("person 9 0;".repeat(8));
            is("none seen", all.nerved(0), 72);
            is("the first", all.nerved(1), 0);
            WivesQuarrels x = dead("person 0 0;person 0 0;", 0);
            is("who live", x.nerved(0), 9);
            is("the first", x.nerved(1), 11);
            WivesQuarrels y = of(TWO + "quarrel 0 1 50 0;");
            y.see(0, 1, 1, 49);
            is("now", y.nerved(2), 1);
            y.weeks(1);
            is("from now on", y.nerved(2), 0);
            y.see(0, 1, 0, 49);
            is("all seen", y.nerved(0), 0);
        });
    }

    private static void lookNext() {
        Edge.term(37, "LOOK NEXT: the QUARREL of now (of like ones the first) of which HEAT behind 5 WEEKS by"
            + " these would be most unlike: which; how many unlike ones; none without any.", () -> {
            WivesQuarrels like = of(Edge.allAgainstAll("50", "0"));
            is("like ones", like.look(0), 1);
            is("two", like.look(1), 2);
            is("all are over", of(TWO + "quarrel 0 1 5 0;heats 0-1;").look(1), 1);
            is("at 6 it isn't", of("person 0 0;person 0 0;quarrel 0 1 6 0;heats 0-1-(nerve=9);").look(1), 2);
            is("at 5 it is", of("person 0 0;person 0 0;quarrel 0 1 5 0;heats 0-1-(nerve=9);").look(1), 1);
            is("99 is one", of("person 0 0;person 0 0;quarrel 0 1 90 0;heats 2+nerve;").look(1), 1);
            // NERVE 1 of one of both, and all above.
            is("98 and 99", of("person 0 0;person 0 0;quarrel 0 1 93 0;heats nerve;").look(1), 2);
            is("63, 64, 65", of("person 0 0;person 0 0;quarrel 0 1 64 0;"
                + "heats (week=0)*((nerve=1)-(nerve=2));").look(1), 3);
            is("18 and 82", of("person 0 0;person 0 0;quarrel 0 1 50 0;"
                + "heats (9-4*(week=3)-9*(week=4))*((nerve=1)-(nerve=2));").look(1), 3);
            is("by the first one's first", of("person 1 0;person 0 0;quarrel 0 1 50 0;heats nerve=0;").look(1), 2);
            WivesQuarrels last = of("person 0 0;".repeat(6) + "person 1 0;person 0 0;quarrel 6 7 50 0;heats nerve=10;");
            is("by the last one's last", last.look(1), 2);
            is("no quarrel that isn't there", of(THREE + "quarrel 1 2 50 0;heats nerve;").look(0), 12);
            is("most unlike", of(THREE + "quarrel 0 1 50 0;quarrel 1 2 50 0;heats (nerve<8)*nerve;").look(0), 12);
            like.see(0, 1, 0, 49);
            is("none by what is seen", like.look(0), NONE);
            is("none by what is seen", like.look(1), 0);
            is("no quarrel", of(EIGHT).look(0), NONE);
            is("no quarrel", of(EIGHT).look(1), 0);
            is("nobody", of("").look(0), NONE);
        });
    }

    // ---- a game, years

    private static void game() {
        Edge.plainTerm("A GAME of two with a QUARREL: each gives in now, or not (1, 0): it is over, if one does:");
        Edge.term(39, "who gives in loses NERVE, who doesn't while the other one does gains 5", () -> {
            // One gives in, if NERVE is no more than the loss; a loss of 5 is HEAT 45.
            is("5 gives in for 5", rests(5, 9, 45, 1), 0);
            is("5 gives in for 5: and rests", rests(5, 9, 45, 0), 2);
            is("6 doesn't for 5", rests(6, 9, 45, 0), 1);
            is("4 does for 5", rests(4, 9, 45, 1), 10);
            is("the other one does", rests(9, 4, 45, 1), 1);
            is("each could", rests(4, 4, 45, 0), 2);
        });
        Edge.term(39, "if nobody does, each loses HEAT of it behind 5 WEEKS, by 9, cut down", () -> {
            is("44 is 4: 5 stays", rests(5, 9, 44, 0), 1);
            is("44 is 4: nobody", rests(5, 9, 44, 1), 0);
            is("53 is 5", rests(5, 9, 53, 1), 0);
            is("54 is 6", rests(5, 9, 54, 1), 10);
            is("8 is 0", rests(0, 0, 8, 0), 3);
            is("9 is 1", rests(0, 0, 9, 0), 2);
            is("99 is 11", rests(9, 9, 99, 0), 2);
            WivesQuarrels x = of("person 0 0;person 0 0;quarrel 0 1 13 0;");
            is("13 is 8 behind 5 weeks", x.game(0, 1, 0), 3);
            WivesQuarrels y = of("person 0 0;person 0 0;quarrel 0 1 14 0;");
            is("14 is 9 behind 5 weeks", y.game(0, 1, 0), 2);
            WivesQuarrels z = of("person 0 0;person 0 0;quarrel 0 1 5 0;heats 0-1;");
            is("over behind 5 weeks is 0", z.game(0, 1, 0), 3);
        });
        Edge.term(39, "if both do, each gains 2 instead.", () -> {
            // 5 is more than 2, so that both giving in never rests.
            for (int nerve = 0; nerve <= 9; nerve++) {
                is("one of both", rests(nerve, nerve, 99, 0), 2);
                is("the first", rests(nerve, nerve, 99, 1), 1);
            }
            is("all three others", rests(0, 0, 1, 0), 3);
        });
        Edge.term(39, "A couple RESTS, if neither gains more by the other choice: how many; the first (10 by"
            + " the first one's, and the other one's); none without a QUARREL.", () -> {
            is("like gains rest", rests(1, 1, 9, 0), 3);
            is("the first of them", rests(1, 1, 9, 1), 0);
            is("more", rests(1, 1, 18, 0), 2);
            is("the first of them", rests(1, 1, 18, 1), 1);
            is("the first one alone", rests(0, 9, 9, 1), 10);
            is("the other one alone", rests(9, 0, 9, 1), 1);
            is("one", rests(9, 0, 9, 0), 1);
            is("without", of(TWO).game(0, 1, 0), NONE);
            is("without", of(TWO).game(0, 1, 1), NONE);
        });
    }

    private static int rests(int nerve, int others, int heat, int what) {
        WivesQuarrels x = of("person " + nerve + " 0;person " + others + " 0;quarrel 0 1 " + heat + " 0;heats 0;");
        return x.game(0, 1, what);
    }

    /** A seed whose draws are so: how many there are to draw from, and which is drawn, again and again. */
    private static int seed(int... draws) {
        for (int seed = 0; seed < 50_000_000; seed++) {
            int s = seed;
            boolean fits = true;
            for (int i = 0; i < draws.length && fits; i += 2) {
                s = s * 1103515245 + 12345;
                fits = (s >> 16 & 0x7fff) % draws[i] == draws[i + 1];
            }
            if (fits) {
                return seed;
            }
        }
        throw new IllegalStateException("no such seed");
    }

    private static void years() {
        Edge.term(40, "YEARS by a seed: n WEEKS (0 to 60) from now on: ahead of each a DRAW of 8:", () -> {
            WivesQuarrels x = of(TWO + "quarrel 0 1 60 0;");
            int quiet = seed(8, 7, 8, 3, 8, 4, 8, 5);
            is("no week", x.years(quiet, 0, 1), 60);
            is("one week", x.years(quiet, 1, 1), 59);
            is("four weeks", x.years(quiet, 4, 1), 56);
            is("the draw is ahead of the week", x.years(seed(8, 0, 2, 0), 0, 0), 3);
            is("the draw is ahead of the week", x.years(seed(8, 7, 8, 0, 2, 0), 1, 0), 3);
            is("the draw is ahead of the week", x.years(seed(8, 7, 8, 0, 2, 0), 2, 0), 2);
            Edge.illegal(() -> x.years(1, 61, 0), () -> x.years(1, -1, 0));
            x.weeks(20);
            is("from now on", x.years(quiet, 4, 1), 36);
            WivesQuarrels none = of("");
            is("sixty weeks", none.years(quiet, 60, 2), 0);
        });
        Edge.term(40, "0 a DRAW of PEOPLE DIES, who lives", () -> {
            WivesQuarrels x = of(THREE + "wed 0 1;quarrel 0 2 50 0;");
            for (int p = 0; p < 3; p++) {
                is("dies", x.years(seed(8, 0, 3, p), 1, 0), 7 - (1 << p));
            }
            is("the heir goes on", x.years(seed(8, 0, 3, 0), 1, 1), 49);
            is("without heir", x.years(seed(8, 0, 3, 2), 1, 1), 0);
            is("a dead one once", x.years(seed(8, 0, 3, 0, 8, 0, 3, 0), 2, 0), 6);
            is("the heir then", x.years(seed(8, 0, 3, 0, 8, 0, 3, 1), 2, 2), 0);
            WivesQuarrels y = dead(THREE, 1);
            is("the dead are drawn, too", y.years(seed(8, 0, 3, 1), 1, 0), 5);
            is("just one draw then", y.years(seed(8, 0, 3, 1, 8, 0, 3, 2), 2, 0), 1);
            is("all of eight", of(EIGHT).years(seed(8, 0, 8, 7), 1, 0), 127);
            is("one of one", of("person 1 1;").years(seed(8, 0), 1, 0), 0);
        });
        Edge.term(40, "1 a DRAW of PEOPLE, a DRAW of PEOPLE: they PICK a QUARREL, if they can, of a DRAW of 30"
            + " and 1 HEAT, and a DRAW of 10 as the WORD (both drawn, whether they can or not)", () -> {
            WivesQuarrels x = of(TWO + "heats 0;");
            is("least heat", x.years(seed(8, 1, 2, 0, 2, 1, 30, 0, 10, 0), 1, 1), 1);
            is("most heat", x.years(seed(8, 1, 2, 1, 2, 0, 30, 29, 10, 9), 1, 1), 30);
            is("one alone can't", x.years(seed(8, 1, 2, 1, 2, 1, 30, 29), 1, 2), 0);
            is("all are drawn then", x.years(seed(8, 1, 2, 1, 2, 1, 30, 29, 10, 9, 8, 0, 2, 0), 2, 0), 2);
            WivesQuarrels wed = of(TWO + "wed 0 1;heats 0;");
            is("two who are wed can't", wed.years(seed(8, 1, 2, 0, 2, 1), 1, 2), 0);
            WivesQuarrels have = of(TWO + "quarrel 0 1 50 0;heats 0;");
            is("two who have one can't", have.years(seed(8, 1, 2, 0, 2, 1), 1, 1), 50);
            is("nor the dead", dead(TWO + "heats 0;", 0).years(seed(8, 1, 2, 0, 2, 1), 1, 2), 0);
            is("all are drawn then", have.years(seed(8, 1, 2, 0, 2, 1, 30, 29, 10, 9, 8, 0, 2, 1), 2, 0), 1);
            WivesQuarrels three = of(THREE + "heats 0;");
            is("two", three.years(seed(8, 1, 3, 0, 3, 1, 30, 4, 10, 0, 8, 1, 3, 2, 3, 1, 30, 6), 2, 1), 12);
            is("two", three.years(seed(8, 1, 3, 0, 3, 1, 30, 4, 10, 0, 8, 1, 3, 2, 3, 1, 30, 6), 2, 2), 2);
        });
        Edge.term(40, "2 a DRAW of PEOPLE, a DRAW of PEOPLE are WED, if they can be:", () -> {
            WivesQuarrels x = of(THREE + "quarrel 0 1 50 0;quarrel 0 2 9 0;heats 0;");
            is("a quarrel of both is over", x.years(seed(8, 2, 3, 0, 3, 1), 1, 1), 9);
            is("one alone can't be", x.years(seed(8, 2, 3, 1, 3, 1), 1, 1), 59);
            is("an heir", x.years(seed(8, 2, 3, 0, 3, 1, 8, 0, 3, 0), 2, 1), 9);
            is("without", x.years(seed(8, 2, 3, 1, 3, 1, 8, 0, 3, 0), 2, 1), 0);
            WivesQuarrels wed = of(THREE + "wed 0 2;quarrel 0 1 50 0;heats 0;");
            is("one who is wed can't be", wed.years(seed(8, 2, 3, 0, 3, 1), 1, 1), 50);
            WivesQuarrels widower = dead(THREE + "quarrel 1 2 50 0;heats 0;", 0);
            is("the dead can't be", widower.years(seed(8, 2, 3, 0, 3, 1, 8, 0, 3, 1), 2, 2), 0);
        });
    }

    private static void draws() {
        Edge.term(40, "who lives at the end (bits); HEAT of all QUARRELS; how many there are.", () -> {
            WivesQuarrels x = of(Edge.allAgainstAll("99", "0") + "heats 0;");
            int quiet = seed(8, 3, 8, 4);
            is("all live", x.years(quiet, 2, 0), 255);
            is("all heat", x.years(quiet, 2, 1), 2772);
            is("all quarrels", x.years(quiet, 2, 2), 28);
            WivesQuarrels y = dead("person 1 1;", 0);
            is("none lives", y.years(1, 60, 0) + y.years(1, 60, 1) + y.years(1, 60, 2), 0);
        });
        Edge.term(40, "A seed becomes itself times 1103515245 and 12345 (an int that wraps); a DRAW of n is its"
            + " bits 16 to 30 MOD n then.", () -> {
            for (int seed : new int[] {0, 1, -1, 2, MOST, LEAST, 123456789, -987654321}) {
                WivesQuarrels x = of("person 1 1;".repeat(7));
                int lives = 127;
                long s = seed;
                int n = 0;
                while (n < 60) {
                    n++;
                    s = (int) (s * 1103515245L + 12345L);
                    int event = (int) ((s & 0xffffffffL) / 65536 % 32768 % 8);
                    int draws = event == 0 ? 1 : event == 1 ? 4 : event == 2 ? 2 : 0;
                    for (int i = 0; i < draws; i++) {
                        s = (int) (s * 1103515245L + 12345L);
                        lives &= event == 0 ? ~(1 << (int) ((s & 0xffffffffL) / 65536 % 32768 % 7)) : -1;
                    }
                    is("who lives by " + seed + " behind " + n, x.years(seed, n, 0), lives);
                }
            }
        });
        Edge.term(40, "(Without PEOPLE just the DRAWS of 8 are made.)", () -> {
            WivesQuarrels x = of("");
            for (int event = 0; event <= 2; event++) {
                for (int what = 0; what <= 2; what++) {
                    is("nobody", x.years(seed(8, event), 60, what), 0);
                }
            }
        });
    }

    // ---- status, an image, constants

    private static void statusAndImage() {
        Edge.term(5, "STATUS: how many calls were refused: 0 TEXTS with a FAULT, 1 ACTS, 2 what is SEEN.", () -> {
            WivesQuarrels x = of(TWO);
            is("none", x.count(11) + x.count(12) + x.count(13), 0);
            Check.town(x, "x");
            Check.town(x, "person");
            is("texts", x.count(11), 2);
            x.weeks(0);
            x.die(0);
            x.die(0);
            x.wed(0, 1);
            x.settle(0, 1);
            x.pick(0, 1, 1, 1);
            is("acts of each kind", x.count(12), 5);
            x.see(0, 0, 0, 0);
            is("sights", x.count(13), 1);
            x.undo();
            x.undo();
            x.restore();
            for (int i = 0; i < 36; i++) {
                x.feed(0, 0, 0, 0, 0);
            }
            Edge.illegal(() -> x.town(701), () -> x.coldest(61));
            Edge.missing(() -> x.die(2), () -> x.see(0, 2, 0, 0), () -> x.pick(2, 0, 1, 1));
            is("no other call", x.count(11) * 100 + x.count(12) * 10 + x.count(13), 251);
        });
        Edge.term(42, "AN IMAGE keeps all that WEEKS and ACTS change, ACTS that are kept, what is SEEN, STATUS.",
            () -> {
            imageKeeps("weeks", (x, i) -> x.weeks(i));
            imageKeeps("a death", (x, i) -> x.die(0));
            imageKeeps("a wedding", (x, i) -> x.wed(1, 2) ? 1 : 0);
            imageKeeps("a settling", (x, i) -> x.settle(1, 2));
            imageKeeps("a pick", (x, i) -> x.pick(0, 2, 9, 9));
            imageKeeps("an undo", (x, i) -> x.undo());
            imageKeeps("a sight", (x, i) -> x.see(0, 1, 1, 1));
            imageKeeps("what is forgotten", (x, i) -> {
                x.forget();
                return x.count(9);
            });
            imageKeeps("a refused act", (x, i) -> x.weeks(21));
            imageKeeps("a refused sight", (x, i) -> x.see(0, 0, 1, 1));
            int[][] others = {{0, 1, 3, 22}, {1, 2, 4, 22}, {1, 2, 3, 21}};
            for (int[] o : others) {
                WivesQuarrels x = of(THREE + "quarrel 1 2 25 0;");
                for (int i = 0; i < 8; i++) {
                    x.see(1, 2, 3, 22);
                }
                x.image();
                x.forget();
                for (int i = 0; i < 8; i++) {
                    x.see(o[0], o[1], o[2], o[3]);
                }
                is("another sight isn't so", x.nerved(2), 0);
                x.restore();
                is("what was seen is", x.nerved(2), 1);
                is("seen", x.count(9), 8);
            }
            WivesQuarrels y = of(TWO);
            y.image();
            Check.town(y, "#");
            y.feed(0, 0, 0, 0, 0);
            y.restore();
            is("a refused text", y.count(11), 0);
            is("not the tape", y.count(10), 20);
            is("not the fault", y.fault(), 0);
        });
        Edge.term(5, "The constants: `NONE = -1`: There is none.", () -> is("NONE", WivesQuarrels.NONE, -1));
    }

    private static void imageKeeps(String what, BiFunction<WivesQuarrels, Integer, Integer> change) {
        WivesQuarrels x = of("person 5 4;person 4 2;person 3 4;person 6 6;wed 0 3;quarrel 1 2 30 2;");
        x.weeks(2);
        x.weeks(3);
        x.see(1, 2, 3, 22);
        x.see(0, 0, 1, 1);
        x.die(2);
        x.die(2);
        x.undo();
        x.image();
        int[] kept = Edge.state(x);
        change.apply(x, 7);
        is(what + " changes it", Arrays.equals(kept, Edge.state(x)), false);
        is("restore", x.restore(), true);
        Edge.same(what, x, kept);
        is("what is seen", x.nerved(2), 1);
        is("the act", x.undo(), 1);
        is("the week", x.count(2), 2);
        is("the act", x.undo(), 0);
        is("heat", x.quarrel(1, 2, 0), 30);
    }
}
