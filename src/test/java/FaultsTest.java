/** Texts, each with the fault and its place (promises 3 and 4). */
public final class FaultsTest {
    private static final String EIGHT = "person 1 1;person 2 2;lawyer 3 3;person 4 4;person 5 5;person 6 6;lawyer 7 7;person 8 8;";
    private static final String THREE = "person 1 1;person 2 2;person 3 3;";

    public static void main(String[] args) {
        fine();
        tokens();
        tooMuch();
        unknown();
        taken();
        twice();
        firstAlongTheText();
        Check.end();
    }

    private static void bad(String text, int fault, int place) {
        WivesQuarrels x = new WivesQuarrels();
        Check.is(3, "town '" + text + "'", Check.town(x, text), fault);
        Check.is(4, "fault of '" + text + "'", x.fault(), place);
        Check.is(5, "refused texts of '" + text + "'", x.count(11), fault == 0 ? 0 : 1);
    }

    private static void good(String text) {
        bad(text, 0, -1);
    }

    /** A fault in an expression, behind 'heats ' and behind 'cuts ' alike. */
    private static void badExpr(String expr, int fault, int place) {
        bad("heats " + expr, fault, place < 0 ? place : place + 6);
        bad("cuts " + expr, fault, place < 0 ? place : place + 5);
    }

    private static void goodExpr(String expr) {
        badExpr(expr + ";", 0, -1);
    }

    private static void fine() {
        good("");
        good("  \n \n");
        good("person0 0;");
        good("person 9 1023;lawyer 0 0;");
        good("  person\n1\n2 ; ");
        good("person 0009 0000;");
        good(EIGHT);
        good(THREE + "wed 0 1;quarrel 0 1 99 9;quarrel 2 0 1 0;quarrel 1 2 50 5;");
        good(THREE + "quarrel 0 1 99 9;wed 1 0;");
        good("heats 1;cuts 1;");
        good("cuts 9999;heats 0;");
        goodExpr("heat+nerve-unlike*many/cut<week");
        goodExpr("not not not not not not heat");
        goodExpr("not(not(not(not(not 1))))");
        goodExpr("not not not not not not (not not not not not not 1)");
        goodExpr("(((((1)))))");
        goodExpr("1+(2)*((3))-(((4)))/((((5))))<(((((6)))))");
        goodExpr("1 or 2 and 3 or not 4<5 and not 6=7");
        goodExpr("heat or heat or heat and heat and heat");
    }

    private static void tokens() {
        bad("x", 1, 0);
        bad("persons 1 1;", 1, 0);
        bad("Person 1 1;", 1, 0);
        bad(" 1;", 1, 1);
        bad(";", 1, 0);
        bad("person 1 1;;", 1, 11);
        bad("person", 1, 6);
        bad("person  ", 1, 8);
        bad("person 1", 1, 8);
        bad("person 1 1", 1, 10);
        bad("person 1 1 \n", 1, 12);
        bad("person 1 1 1;", 1, 11);
        bad("person ;", 1, 7);
        bad("person x 1;", 1, 7);
        bad("person 1 x;", 1, 9);
        bad("person -1 1;", 1, 7);
        bad("person\t1 1;", 1, 6);
        bad("person 1 1;\r", 1, 11);
        bad("\u0000", 1, 0);
        bad("\u00e9", 1, 0);
        bad("person 1 1;\u00ff", 1, 11);
        bad("heat 1;", 1, 0);
        bad("not 1;", 1, 0);
        bad(THREE + "wed 0;", 1, 38);
        bad(THREE + "wed 0 1 2;", 1, 41);
        bad(THREE + "wed heat 1;", 1, 37);
        bad(THREE + "quarrel 0 1 5;", 1, 46);
        bad(THREE + "quarrel 0 1 5 5", 1, 48);
        badExpr("", 1, 0);
        badExpr(";", 1, 0);
        badExpr("1", 1, 1);
        badExpr("1 ", 1, 2);
        badExpr("1 2;", 1, 2);
        badExpr("1 heat;", 1, 2);
        badExpr("1 not 2;", 1, 2);
        badExpr("1 x;", 1, 2);
        badExpr("1+;", 1, 2);
        badExpr("+1;", 1, 0);
        badExpr("-1;", 1, 0);
        badExpr("1--1;", 1, 2);
        badExpr("1<2<3;", 1, 3);
        badExpr("1=2<3;", 1, 3);
        badExpr("1<2=3;", 1, 3);
        badExpr("(1;", 1, 2);
        badExpr("(1", 1, 2);
        badExpr("1);", 1, 1);
        badExpr("();", 1, 1);
        badExpr("1>2;", 1, 1);
        badExpr("heat!;", 1, 4);
        badExpr("1(2);", 1, 1);
        badExpr("1 12345;", 1, 2);
        badExpr("((((((", 1, 6);
        badExpr("((((((+", 1, 6);
        badExpr("(((((()", 1, 6);
        badExpr("((((((#", 1, 6);
        badExpr("not", 1, 3);
        badExpr("not;", 1, 3);
    }

    private static void tooMuch() {
        bad("person 10 1;", 2, 7);
        bad("person 1 1024;", 2, 9);
        bad("person 9999 1;", 2, 7);
        bad("person 00001 1;", 2, 7);
        bad("person 1 00001;", 2, 9);
        bad("person 99999999999999999999 1;", 2, 7);
        bad("person 4294967297 1;", 2, 7);
        bad(EIGHT + "person 1 1;", 2, 88);
        bad(EIGHT + " lawyer", 2, 89);
        bad(THREE + "wed 00000 1;", 2, 37);
        bad(THREE + "quarrel 0 10000 1 1;", 2, 43);
        bad(THREE + "quarrel 0 1 0 1;", 2, 45);
        bad(THREE + "quarrel 0 1 100 1;", 2, 45);
        bad(THREE + "quarrel 0 1 12345 1;", 2, 45);
        bad(THREE + "quarrel 0 1 1 10;", 2, 47);
        bad(THREE + "quarrel 0 1 1 00000;", 2, 47);
        badExpr("10000;", 2, 0);
        badExpr("00000;", 2, 0);
        badExpr("1+12345;", 2, 2);
        badExpr("not not not not not not not 1;", 2, 24);
        badExpr("1 and not not not not not not not", 2, 30);
        badExpr("((((((1", 2, 6);
        badExpr("((((((12345", 2, 6);
        badExpr("((((((heat", 2, 6);
        badExpr("((((((x", 2, 6);
        badExpr("((((((not", 2, 6);
        badExpr("((((((person", 2, 6);
        badExpr("((((((or", 2, 6);
        badExpr("(((((((", 2, 6);
        badExpr("1+(2*(3-(4<(5=(6 and(7", 2, 21);
    }

    private static void unknown() {
        bad("wed 0 1;", 3, 4);
        bad("person 1 1;wed 0 1;", 3, 17);
        bad(THREE + "wed 3 1;", 3, 37);
        bad(THREE + "wed 9999 1;", 3, 37);
        bad(THREE + "quarrel 0 3 1 1;", 3, 43);
        bad("quarrel 0 0 1 1;", 3, 8);
        badExpr("x;", 3, 0);
        badExpr("heats;", 3, 0);
        badExpr("hea t;", 3, 0);
        badExpr("or;", 3, 0);
        badExpr("1 or or;", 3, 5);
        badExpr("1 and person", 3, 6);
        badExpr("1+not 1;", 3, 2);
        badExpr("1<not 1;", 3, 2);
        badExpr("(cuts);", 3, 1);
        badExpr("not and;", 3, 4);
        badExpr("z;", 3, 0);
        badExpr("a;", 3, 0);
        badExpr("heatz;", 3, 0);
        badExpr("aheat;", 3, 0);
        badExpr("hea", 3, 0);
    }

    private static void taken() {
        bad(THREE + "wed 0 0;", 4, 39);
        bad(THREE + "quarrel 2 2 1 1;", 4, 43);
        bad(THREE + "wed 0 1;wed 0 2;", 4, 45);
        bad(THREE + "wed 0 1;wed 1 2;", 4, 45);
        bad(THREE + "wed 0 1;wed 2 0;", 4, 47);
        bad(THREE + "wed 0 1;wed 2 1;", 4, 47);
        bad(THREE + "quarrel 0 1 1 1;quarrel 0 1 1 1;", 4, 59);
        bad(THREE + "quarrel 0 1 1 1;quarrel 1 0 1 1;", 4, 59);
        bad(THREE + "wed 0 1;wed 0", 4, 45);
    }

    private static void twice() {
        bad("heats 1;heats 1;", 5, 8);
        bad("cuts 1;heats 1;cuts 1;", 5, 15);
        bad("heats 1;cuts 1;\nheats", 5, 16);
    }

    private static void firstAlongTheText() {
        bad("person 10 1024;#", 2, 7);
        bad("person 1 1;wed 0 9;#", 3, 17);
        bad("person 1 1 # heats 1; heats 1;", 1, 11);
        bad("heats 1+x+12345;", 3, 8);
        bad("heats 12345+x;", 2, 6);
    }
}
