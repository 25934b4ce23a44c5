/** Each promise by hand: ordinary inputs, edges, wrong inputs, and what a refused call leaves as it was. */
public final class PromisesTest {
    private static final int NONE = WivesQuarrels.NONE;
    private static final String COUPLE = "person 6 1;person 5 6;lawyer 2 8;person 1 16;person 8 0;wed 0 1;"
        + "quarrel 0 2 30 3;quarrel 1 3 5 4;quarrel 0 3 18 1;quarrel 2 3 40 0;";
    private static final String TWO = "person 5 1;person 4 2;";
    private static final String THREE = "person 5 1;person 4 2;person 3 4;";
    private static final String FOUR = THREE + "person 2 8;";
    private static final String EIGHT = "person 1 1;person 1 1;person 1 1;person 1 1;person 1 1;person 1 1;person 1 1;person 1 1;";

    public static void main(String[] args) {
        newObject();
        feed();
        town();
        fault();
        count();
        tables();
        asked();
        person();
        quarrel();
        weeks();
        heatsRules();
        expressions();
        cutsRules();
        die();
        wed();
        settle();
        pick();
        undo();
        then();
        over();
        peace();
        later();
        comesInto();
        camps();
        between();
        drawers();
        deaths();
        friends();
        spared();
        match();
        ready();
        mildest();
        coldest();
        triples();
        alone();
        foes();
        word();
        single();
        cuts();
        see();
        nerved();
        look();
        forget();
        game();
        years();
        image();
        restore();
        Check.end();
    }

    private static WivesQuarrels of(String text) {
        return Check.of(text);
    }

    private static void is(int promise, String what, int got, int due) {
        Check.is(promise, what, got, due);
    }

    private static void newObject() {
        WivesQuarrels x = new WivesQuarrels();
        for (int what = 0; what <= 13; what++) {
            is(1, "count " + what, x.count(what), 0);
        }
        is(1, "fault", x.fault(), NONE);
        is(1, "undo", x.undo(), NONE);
        Check.is(1, "restore", x.restore(), false);
        is(1, "NONE", WivesQuarrels.NONE, -1);
        Check.missing(1, () -> x.person(0, 0), () -> x.die(0), () -> x.see(0, 0, 0, 0));
    }

    private static void feed() {
        WivesQuarrels x = new WivesQuarrels();
        for (int i = 1; i <= 35; i++) {
            is(2, "feed " + i, x.feed(0x20202020, 0x20202020, 0x20202020, 0x20202020, 0x20202020), 20 * i);
        }
        is(2, "feed beyond 700", x.feed(0, 0, 0, 0, 0), NONE);
        is(2, "the tape's bytes", x.count(10), 700);
        is(2, "700 blanks", x.town(700), 0);
        is(2, "the tape behind that", x.count(10), 0);
        is(2, "feed anew", x.feed(0x70657273, 0x6f6e2031, 0x20323b20, 0x70657273, 0x6f6e2033), 20);
        is(2, "feed anew", x.feed(0x20343b2d, -1, 0, 0, 0), 40);
        is(2, "highest first", x.town(23), 0);
        is(2, "a nerve", x.person(0, 0), 1);
        is(2, "a drawer", x.person(1, 1), 4);
    }

    private static void town() {
        WivesQuarrels x = of(TWO + "quarrel 0 1 30 1;");
        x.weeks(2);
        x.see(0, 1, 3, 4);
        x.weeks(21);
        x.image();
        Check.feed(x, "person 1 1;");
        Check.illegal(3, () -> x.town(-1), () -> x.town(21), () -> x.town(Integer.MIN_VALUE), () -> x.town(701));
        is(3, "the tape behind a wrong n", x.count(10), 20);
        is(3, "status behind a wrong n", x.count(11), 0);
        is(3, "a text with a fault", x.town(10), 1);
        is(3, "its status", x.count(11), 1);
        is(3, "the tape then", x.count(10), 0);
        is(3, "people stay", x.count(0), 2);
        is(3, "the week stays", x.count(2), 2);
        is(3, "acts stay", x.count(8), 1);
        is(3, "what is seen stays", x.count(9), 1);
        is(3, "heat stays", x.quarrel(0, 1, 0), 28);
        Check.is(3, "the image stays", x.restore(), true);
        Check.town(x, "heats 5+;");
        is(3, "status again", x.count(11), 1);
        is(3, "the rules stay", x.then(0, 1, 1, 0), 27);

        is(3, "a text anew", Check.town(x, THREE + "quarrel 1 2 7 7;heats 3;"), 0);
        is(3, "people", x.count(0), 3);
        is(3, "who lives", x.count(1), 7);
        is(3, "the week", x.count(2), 0);
        is(3, "acts", x.count(8), 0);
        is(3, "nothing to undo", x.undo(), NONE);
        is(3, "seen", x.count(9), 0);
        Check.is(3, "no image", x.restore(), false);
        is(3, "no old quarrel", x.quarrel(0, 1, 0), NONE);
        is(3, "status is counted on", x.count(11), 1);
        is(3, "status 1 is counted on", x.count(12), 1);
        is(3, "the new rule", x.then(1, 2, 1, 0), 10);
        x.die(0);
        is(3, "just its first bytes", townOf(x, "person 1 1;person 2 2;", 11), 0);
        is(3, "one lives again", x.count(1), 1);
        is(3, "without the old rule", x.count(3), 0);
        is(3, "an earlier text", Check.town(x, "xxxxxxxxxxxxxxxxxxxx"), 1);
        is(3, "cut in a word", townOf(x, "persons", 6), 1);
        is(3, "cut in a word", x.fault(), 6);
        is(3, "an earlier text", Check.town(x, "99999999999999999999"), 1);
        is(3, "cut in a number", townOf(x, "person 199", 8), 1);
        is(3, "cut in a number", x.fault(), 8);
        is(3, "one lives still", x.count(1), 1);
        is(3, "an empty text", x.town(0), 0);
        is(3, "nobody", x.count(0), 0);
    }

    private static int townOf(WivesQuarrels x, String text, int bytes) {
        Check.feed(x, text);
        return x.town(bytes);
    }

    private static void fault() {
        WivesQuarrels x = new WivesQuarrels();
        is(4, "town", Check.town(x, "person 1 1;person 10 1;"), 2);
        is(4, "fault", x.fault(), 18);
        Check.illegal(4, () -> x.town(1));
        is(4, "fault stays with a wrong n", x.fault(), 18);
        x.image();
        is(4, "town", x.town(0), 0);
        is(4, "no fault", x.fault(), NONE);
        x.image();
        Check.town(x, "#");
        x.restore();
        is(4, "an image doesn't keep it", x.fault(), 0);
    }

    private static void count() {
        WivesQuarrels x = of(COUPLE);
        int[] due = {5, 31, 0, 4, 93, 27, 3, 19, 0, 0, 0, 0, 0, 0};
        for (int what = 0; what <= 13; what++) {
            is(5, "count " + what, x.count(what), due[what]);
        }
        x.weeks(3);
        x.die(4);
        x.see(0, 1, 1, 1);
        x.see(0, 0, 1, 1);
        x.see(0, 1, 21, 1);
        x.see(0, 1, 1, 100);
        x.die(4);
        x.weeks(0);
        Check.town(x, "!");
        x.feed(0, 0, 0, 0, 0);
        int[] then = {5, 15, 3, 4, 81, 27, 3, 3, 2, 1, 20, 1, 2, 3};
        for (int what = 0; what <= 13; what++) {
            is(5, "count " + what + " then", x.count(what), then[what]);
        }
        Check.missing(5, () -> x.count(-1), () -> x.count(14), () -> x.count(Integer.MAX_VALUE));
    }

    private static void tables() {
        is(5, "tables of nobody", of("").count(6), 0);
        is(5, "tables without quarrels", of(THREE).count(6), 1);
        is(5, "tables of a quarrel", of(TWO + "quarrel 0 1 1 1;").count(6), 2);
        StringBuilder all = new StringBuilder(EIGHT);
        StringBuilder ring = new StringBuilder(FOUR + "person 1 1;");
        for (int a = 0; a < 8; a++) {
            for (int b = 0; b < a; b++) {
                all.append("quarrel ").append(a).append(' ').append(b).append(" 9 1;");
            }
        }
        for (int a = 0; a < 5; a++) {
            ring.append("quarrel ").append(a).append(' ').append((a + 1) % 5).append(" 9 1;");
        }
        WivesQuarrels x = of(all.toString());
        is(5, "28 quarrels", x.count(3), 28);
        is(5, "tables of all against all", x.count(6), 8);
        is(5, "asked of all against all", x.count(7), 1);
        x.die(0);
        is(5, "tables without the dead", x.count(6), 7);
        is(5, "asked without the dead", x.count(7), 2);
        is(5, "tables of a ring of five", of(ring.toString()).count(6), 3);
        is(5, "asked of a ring of five", of(ring.toString()).count(7), 5);
        // Who sits down first come first served would need three: 0-3, 1-2, 2-3 along a row 0 3 2 1.
        is(5, "tables of a row", of(FOUR + "quarrel 0 3 1 1;quarrel 3 2 1 1;quarrel 2 1 1 1;").count(6), 2);
    }

    private static void asked() {
        is(5, "asked of nobody", of("").count(7), 0);
        is(5, "asked without quarrels", of(FOUR).count(7), 15);
        is(5, "asked of eight", of(EIGHT).count(7), 255);
        is(5, "tables of eight", of(EIGHT).count(6), 1);
        is(5, "the least of like ones", of(TWO + "quarrel 0 1 1 1;").count(7), 1);
        is(5, "more go ahead of less", of(THREE + "quarrel 0 1 1 1;quarrel 0 2 1 1;").count(7), 6);
        WivesQuarrels x = of(THREE);
        x.die(1);
        is(5, "the dead aren't asked", x.count(7), 5);
    }

    private static void person() {
        WivesQuarrels x = of(COUPLE);
        int[][] due = {{6, 1, 1, 1, 0, 12, 48}, {5, 6, 0, 1, 0, 8, 5}, {2, 8, NONE, 1, 1, 9, 70},
            {1, 16, NONE, 1, 0, 7, 63}, {8, 0, NONE, 1, 0, 0, 0}};
        for (int p = 0; p < 5; p++) {
            for (int what = 0; what <= 6; what++) {
                is(6, "person " + p + " " + what, x.person(p, what), due[p][what]);
            }
        }
        x.die(2);
        int[] dead = {2, 8, NONE, 0, 1, 0, 0};
        for (int what = 0; what <= 6; what++) {
            is(6, "the dead " + what, x.person(2, what), dead[what]);
        }
        Check.missing(6, () -> x.person(-1, 0), () -> x.person(5, 0), () -> x.person(0, -1), () -> x.person(0, 7));
    }

    private static void quarrel() {
        WivesQuarrels x = of(COUPLE);
        int[] due = {30, 3, 0, 1, 1};
        for (int what = 0; what <= 4; what++) {
            is(7, "quarrel 0 2 " + what, x.quarrel(0, 2, what), due[what]);
            is(7, "quarrel 2 0 " + what, x.quarrel(2, 0, what), due[what]);
            is(7, "no quarrel " + what, x.quarrel(0, 4, what), NONE);
            is(7, "quarrel with oneself " + what, x.quarrel(1, 1, what), NONE);
        }
        is(7, "cold", x.quarrel(0, 3, 4), 0);
        is(7, "not to be settled", x.quarrel(0, 3, 3), 0);
        WivesQuarrels y = of(TWO + "quarrel 0 1 19 0;");
        is(7, "19 doesn't cut", y.quarrel(0, 1, 4), 0);
        WivesQuarrels z = of(TWO + "quarrel 0 1 20 0;");
        is(7, "20 cuts", z.quarrel(0, 1, 4), 1);
        WivesQuarrels v = of(TWO + "quarrel 0 1 20 0;cuts week=1;");
        is(7, "cuts as it is", v.quarrel(0, 1, 4), 0);
        v.weeks(1);
        is(7, "cuts as it is then", v.quarrel(0, 1, 4), 1);
        is(7, "a rule below 0", of(TWO + "quarrel 0 1 20 0;cuts 0-1;").quarrel(0, 1, 4), 0);
        Check.missing(7, () -> x.quarrel(-1, 0, 0), () -> x.quarrel(0, 5, 0), () -> x.quarrel(0, 2, 5),
            () -> x.quarrel(0, 4, 5), () -> x.quarrel(0, 2, -1));
    }

    private static void weeks() {
        WivesQuarrels x = of(TWO + "quarrel 0 1 3 0;");
        is(8, "0 weeks", x.weeks(0), NONE);
        is(8, "21 weeks", x.weeks(21), NONE);
        is(8, "weeks below 0", x.weeks(-1), NONE);
        is(8, "most weeks", x.weeks(Integer.MAX_VALUE), NONE);
        is(8, "refused", x.count(12), 4);
        is(8, "no act", x.count(8), 0);
        is(8, "2 weeks", x.weeks(2), 2);
        is(8, "nerve 9 cools", x.quarrel(0, 1, 0), 1);
        is(8, "one act", x.count(8), 1);
        is(8, "1 week", x.weeks(1), 3);
        is(8, "over at 0", x.quarrel(0, 1, 0), NONE);
        WivesQuarrels y = of("person 5 1;person 5 1;quarrel 0 1 97 0;");
        is(8, "20 weeks", y.weeks(20), 20);
        is(8, "nerve 10 heats, to 99", y.quarrel(0, 1, 0), 99);
        for (int i = 2; i <= 49; i++) {
            is(8, "weeks", y.weeks(20), 20 * i);
        }
        is(8, "beyond 999", y.weeks(20), NONE);
        is(8, "to 999", y.weeks(19), 999);
        is(8, "beyond 999 by 1", y.weeks(1), NONE);
        is(8, "the week", y.count(2), 999);
        is(8, "'cut' to 99", y.quarrel(0, 1, 2), 99);
        is(8, "what is asked goes beyond 999", y.then(0, 1, 60, 0), 99);
    }

    private static int heatBehind(String rule, int weeks) {
        WivesQuarrels x = of("person 7 1;person 4 2;person 0 0;quarrel 0 1 50 0;quarrel 1 2 50 0;heats " + rule + ";");
        x.weeks(weeks);
        return x.quarrel(0, 1, 0);
    }

    private static void heatsRules() {
        is(8, "kept to 9", heatBehind("9999", 1), 59);
        is(8, "kept to -9", heatBehind("0-9999", 1), 41);
        is(8, "to 99", heatBehind("9", 6), 99);
        is(8, "over", heatBehind("0-9", 6), NONE);
        is(8, "heat", heatBehind("heat-47", 1), 53);
        is(8, "heat as it is then", heatBehind("heat-47", 2), 59);
        is(8, "nerve", heatBehind("nerve-5", 1), 56);
        is(8, "unlike", heatBehind("unlike", 1), 53);
        is(8, "unlike the other way", of(TWO + "quarrel 0 1 5 0;heats unlike;").then(1, 0, 1, 0), 6);
        is(8, "many", heatBehind("many", 1), 52);
        is(8, "week", heatBehind("week", 3), 53);
        is(8, "cut", heatBehind("cut", 3), 53);
        WivesQuarrels x = of(THREE + "quarrel 0 1 1 1;quarrel 0 2 50 1;heats 0-many;");
        x.weeks(1);
        is(8, "the first is over", x.quarrel(0, 1, 0), NONE);
        is(8, "'many' doesn't count it then", x.quarrel(0, 2, 0), 49);
        WivesQuarrels y = of(THREE + "quarrel 1 2 1 1;quarrel 0 2 50 1;heats 0-many;");
        y.weeks(1);
        is(8, "'many' still counts the later one", y.quarrel(0, 2, 0), 48);
    }

    private static void expressions() {
        String[] rules = {"2+3*2", "(2+3)*2-3", "7-2-3", "8/2/2", "8/3*3", "0-7/2", "(0-7)/2", "5/0", "5/(1-1)+3",
            "1<2", "2<1", "2<2", "2=2", "2=3", "1+1=2", "not 0", "not 5", "not not 5", "not 1<2", "not 1-1",
            "5 and 3", "5 and 0", "0 or 7", "0 or 0", "1 or 0 and 0", "(1 or 0) and 0", "not 0 and 0", "5", "0-1 or 0",
            "9999*9999*9999*9999/9999/9999", "1<2 and 2<3", "3*(1<2)+2*(2=2)", "0 and 0 or 1"};
        int[] due = {8, 7, 2, 2, 6, -3, -3, 0, 3,
            1, 0, 0, 1, 0, 1, 1, 0, 1, 0, 1,
            1, 0, 1, 0, 1, 0, 0, 5, 1,
            wrapped(), 1, 5, 1};
        for (int i = 0; i < rules.length; i++) {
            is(8, "heats " + rules[i], heatBehind(rules[i], 1) - 50, due[i]);
        }
        String deep = "heat=50";
        for (int i = 0; i < 5; i++) {
            deep = "0 or 1 and 4<3+2*(" + deep + ")";
        }
        is(8, "as deep as can be", heatBehind(deep, 1), 51);
        is(8, "as deep as can be", heatBehind(deep, 2), 51);
        longRules();
        is(8, "ints that wrap", heatBehind("9999*9999*23<0", 1) - 50, 9999 * 9999 * 23 < 0 ? 1 : 0);
    }

    /** Each as long as can be, so that what one leaves behind would be seen in the next. */
    private static void longRules() {
        WivesQuarrels x = new WivesQuarrels();
        for (int i = 1; i <= 4; i++) {
            StringBuilder b = new StringBuilder(TWO + "quarrel 0 1 50 0;heats " + i);
            while (b.length() < 690) {
                b.append("+0*1");
            }
            is(8, "a long rule", Check.town(x, b.append(";").toString()), 0);
            is(8, "by a long rule", x.then(0, 1, 1, 0), 50 + i);
        }
    }

    private static int wrapped() {
        int n = 9999 * 9999 * 9999 * 9999 / 9999 / 9999;
        return Math.max(-9, Math.min(9, n));
    }

    private static int cutBehind(String rule, int weeks) {
        WivesQuarrels x = of(TWO + "quarrel 0 1 10 0;heats 1;cuts " + rule + ";");
        x.weeks(weeks);
        return x.quarrel(0, 1, 2);
    }

    private static void cutsRules() {
        is(8, "always", cutBehind("1", 5), 5);
        is(8, "never", cutBehind("0", 5), 0);
        is(8, "below 0", cutBehind("0-5", 5), 0);
        is(8, "by the new heat", cutBehind("heat=11", 1), 1);
        is(8, "by 'cut' ahead of it", cutBehind("cut<2", 5), 2);
        is(8, "by the week that goes by", cutBehind("week=0", 5), 1);
        WivesQuarrels x = of("person 5 0;person 5 0;person 5 0;quarrel 0 1 18 0;quarrel 1 2 19 0;");
        x.weeks(1);
        is(8, "without rule at 19", x.quarrel(0, 1, 2), 0);
        is(8, "without rule at 20", x.quarrel(1, 2, 2), 1);
        WivesQuarrels y = of(TWO + "quarrel 0 1 20 0;");
        y.weeks(1);
        is(8, "20 that cools doesn't cut", y.quarrel(0, 1, 2), 0);
    }

    private static void die() {
        WivesQuarrels x = of(COUPLE);
        x.weeks(2);
        is(9, "die", x.die(0), 3);
        is(9, "dead", x.person(0, 3), 0);
        is(9, "the drawer", x.person(1, 1), 7);
        is(9, "the dead's drawer stays", x.person(0, 1), 1);
        is(9, "the widow", x.person(1, 2), NONE);
        is(9, "the dead isn't wed", x.person(0, 2), NONE);
        is(9, "what goes on", x.quarrel(1, 2, 0), 28);
        is(9, "its word", x.quarrel(1, 2, 1), 3);
        is(9, "its cuts", x.quarrel(1, 2, 2), 0);
        is(9, "added", x.quarrel(1, 3, 0), 19);
        is(9, "the word there", x.quarrel(1, 3, 1), 4);
        is(9, "the dead's quarrels", x.person(0, 5), 0);
        is(9, "dead already", x.die(0), NONE);
        is(9, "refused", x.count(12), 1);
        is(9, "acts", x.count(8), 2);
        is(9, "without heir", x.die(3), 1);
        is(9, "what is left", x.count(4), 28);
        Check.missing(9, () -> x.die(-1), () -> x.die(5));
        is(9, "a wrong number isn't refused", x.count(12), 1);

        WivesQuarrels y = of(THREE + "wed 0 1;quarrel 0 1 50 1;quarrel 0 2 60 2;quarrel 1 2 60 3;heats 0;cuts 1;");
        y.weeks(4);
        is(9, "die", y.die(0), 1);
        is(9, "99 at most", y.quarrel(1, 2, 0), 99);
        is(9, "its word stays", y.quarrel(1, 2, 1), 3);
        is(9, "its cuts stay", y.quarrel(1, 2, 2), 4);
        is(9, "that with the heir is over", y.quarrel(0, 1, 0), NONE);
        WivesQuarrels z = of(THREE + "wed 0 1;quarrel 0 2 60 2;cuts 1;");
        z.weeks(4);
        z.die(0);
        is(9, "cuts anew", z.quarrel(1, 2, 2), 0);
    }

    private static void wed() {
        WivesQuarrels x = of(FOUR + "quarrel 0 1 50 1;quarrel 1 2 50 1;");
        Check.is(10, "wed to oneself", x.wed(0, 0), false);
        Check.is(10, "wed", x.wed(1, 0), true);
        is(10, "to whom", x.person(0, 2), 1);
        is(10, "to whom", x.person(1, 2), 0);
        is(10, "their quarrel is over", x.quarrel(0, 1, 0), NONE);
        is(10, "another one stays", x.quarrel(1, 2, 0), 50);
        Check.is(10, "wed already", x.wed(0, 1), false);
        Check.is(10, "the first is wed", x.wed(0, 2), false);
        Check.is(10, "the second is wed", x.wed(2, 0), false);
        x.die(3);
        Check.is(10, "the dead", x.wed(2, 3), false);
        Check.is(10, "the dead", x.wed(3, 2), false);
        is(10, "refused", x.count(12), 6);
        is(10, "acts", x.count(8), 2);
        x.die(1);
        Check.is(10, "a widower", x.wed(0, 2), true);
        Check.missing(10, () -> x.wed(-1, 0), () -> x.wed(0, 4), () -> x.wed(4, 4));
    }

    private static void settle() {
        WivesQuarrels x = of("person 1 1;person 1 2;lawyer 1 4;person 1 8;"
            + "quarrel 0 1 5 0;quarrel 1 2 5 3;quarrel 1 3 5 2;quarrel 0 3 5 1;quarrel 2 3 5 3;");
        is(11, "by the first's word", x.settle(0, 1), 0);
        is(11, "settled already", x.settle(0, 1), NONE);
        is(11, "by a third who is no lawyer", x.settle(1, 2), NONE);
        is(11, "by a third's word", x.settle(0, 3), NONE);
        is(11, "by a lawyer", x.settle(3, 1), 2);
        is(11, "by the other's word", x.settle(2, 3), 3);
        is(11, "with oneself", x.settle(1, 1), NONE);
        is(11, "left", x.count(3), 2);
        is(11, "refused", x.count(12), 4);
        is(11, "acts", x.count(8), 3);
        WivesQuarrels y = of("person 1 1;person 1 2;lawyer 1 4;quarrel 0 1 5 2;");
        y.die(2);
        is(11, "by a dead lawyer", y.settle(0, 1), NONE);
        Check.missing(11, () -> x.settle(-1, 0), () -> x.settle(0, 4));
    }

    private static void pick() {
        WivesQuarrels x = of(FOUR + "wed 0 1;");
        is(12, "pick", x.pick(2, 0, 99, 9), 1);
        is(12, "heat", x.quarrel(0, 2, 0), 99);
        is(12, "word", x.quarrel(0, 2, 1), 9);
        is(12, "cut", x.quarrel(0, 2, 2), 0);
        is(12, "with oneself", x.pick(1, 1, 5, 5), NONE);
        is(12, "there already", x.pick(0, 2, 5, 5), NONE);
        is(12, "wed to each other", x.pick(0, 1, 5, 5), NONE);
        is(12, "heat 0", x.pick(1, 2, 0, 5), NONE);
        is(12, "heat 100", x.pick(1, 2, 100, 5), NONE);
        is(12, "word -1", x.pick(1, 2, 5, -1), NONE);
        is(12, "word 10", x.pick(1, 2, 5, 10), NONE);
        x.die(3);
        is(12, "the dead", x.pick(1, 3, 5, 5), NONE);
        is(12, "the dead", x.pick(3, 1, 5, 5), NONE);
        is(12, "refused", x.count(12), 9);
        is(12, "pick", x.pick(1, 2, 1, 0), 2);
        is(12, "the other one stays", x.quarrel(0, 2, 0), 99);
        is(12, "acts", x.count(8), 3);
        Check.missing(12, () -> x.pick(-1, 0, 5, 5), () -> x.pick(0, 4, 0, 5));
    }

    private static void undo() {
        WivesQuarrels x = of(COUPLE);
        x.weeks(3);
        x.die(0);
        x.settle(1, 2);
        x.wed(1, 3);
        x.pick(1, 4, 5, 5);
        x.die(2);
        is(13, "undo the death", x.undo(), 5);
        is(13, "who lives", x.count(1), 30);
        is(13, "undo the pick", x.undo(), 4);
        is(13, "no quarrel", x.quarrel(1, 4, 0), NONE);
        is(13, "undo the wedding", x.undo(), 3);
        is(13, "not wed", x.person(3, 2), NONE);
        is(13, "the quarrel of both again", x.quarrel(1, 3, 0), 17);
        is(13, "undo the settling", x.undo(), 2);
        is(13, "the quarrel again", x.quarrel(1, 2, 0), 27);
        is(13, "undo the death", x.undo(), 1);
        is(13, "wed again", x.person(1, 2), 0);
        is(13, "the drawer", x.person(1, 1), 6);
        is(13, "the quarrel", x.quarrel(0, 2, 2), 3);
        is(13, "with whom", x.person(0, 5), 12);
        is(13, "undo the weeks", x.undo(), 0);
        is(13, "the week", x.count(2), 0);
        is(13, "cuts", x.cuts(), 0);
        is(13, "heat", x.quarrel(0, 2, 0), 30);
        is(13, "none is left", x.undo(), NONE);
        is(13, "that isn't refused", x.count(12), 0);

        WivesQuarrels y = of(TWO + "quarrel 0 1 99 0;");
        for (int i = 1; i <= 45; i++) {
            y.weeks(1);
            is(13, "acts kept", y.count(8), Math.min(i, 40));
        }
        for (int i = 39; i >= 0; i--) {
            is(13, "undo", y.undo(), i);
            is(13, "the week", y.count(2), i + 5);
        }
        is(13, "none is kept", y.undo(), NONE);
        is(13, "the latest ones were kept", y.count(2), 5);
        y.weeks(3);
        is(13, "an act behind that", y.undo(), 0);
        is(13, "the week", y.count(2), 5);
    }

    private static void then() {
        WivesQuarrels x = of(COUPLE);
        is(14, "heat now", x.then(2, 0, 0, 0), 30);
        is(14, "heat", x.then(0, 2, 5, 0), 25);
        is(14, "cut", x.then(0, 2, 60, 1), 0);
        is(14, "cut", x.then(0, 2, 15, 1), 10);
        is(14, "heat when over", x.then(1, 3, 5, 0), 0);
        is(14, "heat ahead of that", x.then(1, 3, 4, 0), 1);
        is(14, "none now", x.then(0, 1, 5, 0), NONE);
        is(14, "none with oneself", x.then(0, 0, 5, 1), NONE);
        is(14, "nothing changes", x.count(2) + x.count(8), 0);
        Check.missing(14, () -> x.then(-1, 0, 0, 0), () -> x.then(0, 5, 61, 0), () -> x.then(0, 2, 61, 2),
            () -> x.then(0, 2, 0, -1));
        Check.illegal(14, () -> x.then(0, 2, 61, 0), () -> x.then(0, 2, -1, 1), () -> x.then(0, 1, 61, 0));
        WivesQuarrels y = of(TWO + "quarrel 0 1 5 0;heats 1;cuts 1;");
        is(14, "60 weeks", y.then(0, 1, 60, 0), 65);
        is(14, "cut in 60 weeks", y.then(0, 1, 60, 1), 60);
    }

    private static void over() {
        WivesQuarrels x = of(COUPLE);
        is(15, "over", x.over(3, 1), 5);
        is(15, "over", x.over(0, 2), 30);
        is(15, "none now", x.over(0, 1), NONE);
        is(15, "with oneself", x.over(2, 2), NONE);
        Check.missing(15, () -> x.over(-1, 0), () -> x.over(0, 5));
        is(15, "behind 60", of(TWO + "quarrel 0 1 60 0;").over(0, 1), 60);
        is(15, "not behind 60", of(TWO + "quarrel 0 1 61 0;").over(0, 1), NONE);
        is(15, "behind 1", of(TWO + "quarrel 0 1 1 0;").over(0, 1), 1);
    }

    private static void peace() {
        is(16, "peace", of(COUPLE).peace(), 40);
        is(16, "peace now", of(THREE).peace(), 0);
        is(16, "behind 60", of(TWO + "quarrel 0 1 60 0;").peace(), 60);
        is(16, "none", of(TWO + "quarrel 0 1 61 0;").peace(), NONE);
    }

    private static void later() {
        WivesQuarrels x = of(COUPLE);
        is(17, "hottest", x.later(0, 0), 23);
        is(17, "hottest", x.later(39, 0), 23);
        is(17, "none", x.later(40, 0), NONE);
        is(17, "left", x.later(4, 1), 4);
        is(17, "left", x.later(5, 1), 3);
        is(17, "left", x.later(60, 1), 0);
        is(17, "bitter", x.later(0, 2), 2);
        is(17, "bitter of like ones", x.later(60, 2), 0);
        is(17, "the first of like ones", of(FOUR + "quarrel 2 3 9 1;quarrel 1 3 9 1;quarrel 1 2 8 1;").later(0, 0), 13);
        is(17, "bitter of like ones", of(FOUR + "quarrel 2 3 9 1;quarrel 0 1 9 1;").later(8, 2), 0);
        is(17, "bitter of nobody", of("").later(0, 2), NONE);
        WivesQuarrels y = of(TWO);
        y.die(0);
        is(17, "the dead aren't bitter", y.later(0, 2), 1);
        y.die(1);
        is(17, "none lives", y.later(0, 2), NONE);
        Check.missing(17, () -> x.later(0, 3), () -> x.later(0, -1), () -> x.later(61, 3));
        Check.illegal(17, () -> x.later(61, 0), () -> x.later(-1, 2));
    }

    private static void comesInto() {
        WivesQuarrels x = of(COUPLE);
        is(18, "how many", x.comesInto(0, 0), 2);
        is(18, "heat", x.comesInto(0, 1), 53);
        is(18, "how many", x.comesInto(1, 0), 2);
        is(18, "heat", x.comesInto(1, 1), 53);
        is(18, "without heir", x.comesInto(2, 0), 0);
        is(18, "without heir", x.comesInto(2, 1), 0);
        is(18, "nobody died", x.count(1), 31);
        x.die(2);
        is(18, "the dead", x.comesInto(2, 0), NONE);
        is(18, "the dead", x.comesInto(2, 1), NONE);
        Check.missing(18, () -> x.comesInto(-1, 0), () -> x.comesInto(5, 0), () -> x.comesInto(0, 2),
            () -> x.comesInto(2, -1));
        is(18, "not that with the heir", of(THREE + "wed 0 1;quarrel 0 1 5 1;quarrel 1 2 7 1;").comesInto(0, 1), 7);
        is(18, "99 at most", of(THREE + "wed 0 1;quarrel 0 2 95 1;quarrel 1 2 7 1;").comesInto(0, 1), 99);
    }

    private static void camps() {
        is(19, "a three", of(COUPLE).camps(), NONE);
        is(19, "nobody", of("").camps(), 0);
        is(19, "no quarrel", of(FOUR).camps(), 15);
        is(19, "a pair and two", of(FOUR + "quarrel 1 3 1 1;").camps(), 7);
        is(19, "two pairs", of(FOUR + "quarrel 1 3 1 1;quarrel 2 0 1 1;").camps(), 3);
        is(19, "a row", of(FOUR + "quarrel 0 3 1 1;quarrel 3 1 1 1;quarrel 1 2 1 1;").camps(), 3);
        is(19, "a ring of four", of(FOUR + "quarrel 0 3 1 1;quarrel 3 1 1 1;quarrel 1 2 1 1;quarrel 2 0 1 1;").camps(), 3);
        is(19, "a long row", of(EIGHT + "quarrel 0 7 1 1;quarrel 7 1 1 1;quarrel 1 6 1 1;quarrel 6 2 1 1;"
            + "quarrel 2 5 1 1;quarrel 5 3 1 1;quarrel 3 4 1 1;").camps(), 15);
        is(19, "a ring of five and more", of(EIGHT + "quarrel 7 6 1 1;quarrel 6 5 1 1;quarrel 5 4 1 1;"
            + "quarrel 4 3 1 1;quarrel 3 7 1 1;").camps(), NONE);
        WivesQuarrels x = of(FOUR + "quarrel 1 3 1 1;");
        x.die(0);
        is(19, "without the dead", x.camps(), 6);
    }

    private static void between() {
        WivesQuarrels x = of(COUPLE);
        is(20, "two steps", x.between(0, 3), 2);
        is(20, "one step", x.between(0, 1), 1);
        is(20, "to oneself", x.between(2, 2), 0);
        WivesQuarrels row = of(FOUR + "quarrel 0 2 1 1;quarrel 0 3 1 1;quarrel 1 3 1 1;");
        is(20, "three steps", row.between(0, 3), 3);
        is(20, "three steps back", row.between(3, 0), 3);
        row.die(1);
        is(20, "the dead are no go-between", row.between(0, 3), NONE);
        is(20, "from the dead", row.between(1, 2), NONE);
        is(20, "to the dead", row.between(2, 1), NONE);
        is(20, "the dead to oneself", row.between(1, 1), NONE);
        is(20, "none", of(TWO + "quarrel 0 1 1 1;").between(0, 1), NONE);
        Check.missing(20, () -> x.between(-1, 0), () -> x.between(0, 5));
    }

    private static void drawers() {
        is(21, "drawers", of(COUPLE).drawers(), 15);
        is(21, "no quarrel", of(THREE).drawers(), 0);
        is(21, "nobody", of("").drawers(), 0);
        is(21, "none", of(TWO + "quarrel 0 1 5 9;").drawers(), NONE);
        is(21, "fewer ahead of less", of("person 1 1;person 1 2;person 1 3;quarrel 0 1 5 0;quarrel 0 2 5 1;").drawers(), 4);
        is(21, "the least of as few", of("person 1 1;person 1 1;quarrel 0 1 5 0;").drawers(), 1);
        WivesQuarrels x = of("person 1 4;person 1 2;person 1 1;quarrel 1 2 5 2;");
        is(21, "one", x.drawers(), 1);
        x.die(0);
        is(21, "not of the dead", x.drawers(), NONE);
        StringBuilder all = new StringBuilder();
        for (int word = 0; word < 8; word++) {
            all.append("person 1 ").append(1 << word).append(";");
        }
        for (int word = 0; word < 8; word++) {
            all.append("quarrel ").append(word).append(' ').append((word + 1) % 8).append(" 5 ").append(word).append(";");
        }
        is(21, "all eight", of(all.toString()).drawers(), 255);
    }

    private static void deaths() {
        is(22, "deaths", of(COUPLE).deaths(), 12);
        is(22, "peace", of(THREE).deaths(), 0);
        is(22, "the least", of(TWO + "quarrel 0 1 5 5;").deaths(), 1);
        is(22, "an heir would go on", of(THREE + "wed 0 1;quarrel 0 2 5 5;").deaths(), 4);
        is(22, "both of a couple", of(FOUR + "wed 0 1;wed 2 3;quarrel 0 2 5 5;").deaths(), 3);
        // 1 dies ahead of 3, so that 3 comes into it, and dies then.
        is(22, "one behind the other", of(FOUR + "wed 1 3;wed 0 2;quarrel 1 0 5 5;").deaths(), 5);
        is(22, "a quarrel of both who are wed", of(TWO + "wed 0 1;quarrel 0 1 5 5;").deaths(), 1);
        WivesQuarrels x = of(THREE + "quarrel 1 2 5 5;");
        is(22, "deaths", x.deaths(), 2);
        is(22, "nobody died", x.count(1), 7);
        x.die(0);
        is(22, "of the living", x.deaths(), 2);
    }

    private static void friends() {
        WivesQuarrels x = of(COUPLE);
        is(23, "friends of 0", x.friends(0), 2);
        is(23, "friends of 1", x.friends(1), 5);
        is(23, "friends of 2", x.friends(2), 2);
        is(23, "friends of 3", x.friends(3), 0);
        is(23, "friends of 4", x.friends(4), 0);
        x.die(3);
        is(23, "friends of the dead", x.friends(3), 0);
        is(23, "no foe of both lives", x.friends(1), 0);
        Check.missing(23, () -> x.friends(-1), () -> x.friends(5));
    }

    private static void spared() {
        WivesQuarrels x = of(COUPLE);
        is(24, "spared by 0", x.spared(0), 1);
        is(24, "spared by 1", x.spared(1), 1);
        is(24, "spared by 2", x.spared(2), 2);
        is(24, "spared by 3", x.spared(3), 3);
        is(24, "spared by 4", x.spared(4), 0);
        x.die(4);
        is(24, "by the dead", x.spared(4), NONE);
        is(24, "that with the heir", of(TWO + "wed 0 1;quarrel 0 1 5 1;").spared(0), 1);
        Check.missing(24, () -> x.spared(-1), () -> x.spared(5));
    }

    private static void match() {
        WivesQuarrels x = of(COUPLE);
        is(25, "for 2", x.match(2), 4);
        is(25, "for 4", x.match(4), 3);
        is(25, "one who is wed", x.match(0), NONE);
        x.die(4);
        is(25, "the dead is no match", x.match(2), 3);
        is(25, "for the dead", x.match(4), NONE);
        x.die(2);
        is(25, "none", x.match(3), NONE);
        is(25, "but one of both", of(THREE + "quarrel 0 1 50 1;quarrel 2 1 7 1;").match(0), 1);
        is(25, "the least", of(FOUR).match(0), 1);
        is(25, "not oneself", of(FOUR + "quarrel 1 2 5 1;").match(3), 0);
        Check.missing(25, () -> x.match(-1), () -> x.match(5));
    }

    private static void ready() {
        WivesQuarrels x = of(COUPLE);
        is(26, "ready", x.ready(), 2);
        x.die(2);
        is(26, "without the lawyer", x.ready(), 1);
        is(26, "nobody", of("").ready(), 0);
    }

    private static void mildest() {
        WivesQuarrels x = of("person 5 1;person 9 1;person 5 1;");
        is(27, "the least of like ones", x.mildest(), 0);
        x.die(0);
        is(27, "who lives", x.mildest(), 2);
        x.die(2);
        is(27, "the last", x.mildest(), 1);
        x.die(1);
        is(27, "none lives", x.mildest(), NONE);
    }

    private static void coldest() {
        WivesQuarrels x = of(COUPLE);
        is(28, "now", x.coldest(0), 0);
        is(28, "behind 5", x.coldest(5), 2);
        is(28, "when all are over", x.coldest(60), 0);
        is(28, "nobody", of("").coldest(60), NONE);
        WivesQuarrels y = of(FOUR + "quarrel 1 3 9 1;quarrel 2 3 9 1;heats 0;cuts unlike=1;");
        is(28, "two who cut", y.coldest(3), 2);
        y.die(2);
        is(28, "none cuts", y.coldest(3), 0);
        y.die(0);
        is(28, "who lives", y.coldest(3), 1);
        Check.illegal(28, () -> x.coldest(61), () -> x.coldest(-1));
    }

    private static void triples() {
        is(29, "one", of(COUPLE).triples(), 1);
        is(29, "none", of(THREE + "quarrel 0 1 1 1;quarrel 1 2 1 1;").triples(), 0);
        is(29, "four", of(FOUR + "quarrel 0 1 1 1;quarrel 1 2 1 1;quarrel 2 3 1 1;quarrel 3 0 1 1;quarrel 0 2 1 1;"
            + "quarrel 1 3 1 1;").triples(), 4);
    }

    private static void alone() {
        is(30, "none", of(COUPLE).alone(), 0);
        is(30, "nobody", of("").alone(), 0);
        is(30, "one who lives alone", of("person 1 1;").alone(), 1);
        WivesQuarrels x = of(THREE + "quarrel 0 1 1 1;quarrel 1 2 1 1;");
        is(30, "one against all", x.alone(), 2);
        x.die(0);
        is(30, "two against each other", x.alone(), 6);
        x.die(1);
        is(30, "one is left", x.alone(), 4);
    }

    private static void foes() {
        WivesQuarrels x = of(COUPLE);
        is(31, "of both", x.foes(0, 2), 8);
        is(31, "of 0 and 1", x.foes(1, 0), 8);
        is(31, "of one alone", x.foes(3, 3), 7);
        is(31, "none", x.foes(0, 4), 0);
        Check.missing(31, () -> x.foes(-1, 0), () -> x.foes(0, 5));
    }

    private static void word() {
        WivesQuarrels x = of("person 1 513;person 1 1;person 1 0;");
        is(32, "two", x.word(0), 3);
        is(32, "one", x.word(9), 1);
        is(32, "nobody", x.word(5), 0);
        x.die(0);
        is(32, "who lives", x.word(0), 2);
        Check.missing(32, () -> x.word(-1), () -> x.word(10));
    }

    private static void single() {
        WivesQuarrels x = of(COUPLE);
        is(33, "single", x.single(), 28);
        x.die(0);
        is(33, "the widow, not the dead", x.single(), 30);
        x.wed(1, 4);
        is(33, "wed", x.single(), 12);
    }

    private static void cuts() {
        WivesQuarrels x = of(COUPLE);
        is(34, "none", x.cuts(), 0);
        x.weeks(5);
        is(34, "two that are hot", x.cuts(), 10);
        x.die(2);
        is(34, "over", x.cuts(), 0);
    }

    private static void see() {
        WivesQuarrels x = of(THREE);
        is(35, "both are one", x.see(1, 1, 2, 7), NONE);
        is(35, "weeks below 0", x.see(0, 1, -1, 7), NONE);
        is(35, "21 weeks", x.see(0, 1, 21, 7), NONE);
        is(35, "heat below 0", x.see(0, 1, 2, -1), NONE);
        is(35, "heat 100", x.see(0, 1, 2, 100), NONE);
        is(35, "refused", x.count(13), 5);
        is(35, "none seen", x.count(9), 0);
        is(35, "seen", x.see(0, 1, 0, 0), 1);
        is(35, "seen", x.see(1, 0, 20, 99), 2);
        for (int i = 3; i <= 8; i++) {
            is(35, "seen", x.see(0, 2, i, i), i);
        }
        is(35, "the ninth", x.see(0, 2, 1, 1), NONE);
        is(35, "seen", x.count(9), 8);
        is(35, "refused", x.count(13), 6);
        is(35, "no act", x.count(8) + x.count(12), 0);
        Check.missing(35, () -> x.see(-1, 0, 99, 0), () -> x.see(0, 3, 1, 1), () -> x.see(3, 3, 1, 1));
        is(35, "a wrong number isn't refused", x.count(13), 6);
    }

    private static void nerved() {
        WivesQuarrels x = of(TWO + "quarrel 0 1 10 0;");
        is(36, "without any seen", x.nerved(0), 18);
        is(36, "the first", x.nerved(1), 0);
        is(36, "without", x.nerved(2), 1);
        x.see(1, 0, 2, 12);
        is(36, "how many", x.nerved(0), 9);
        is(36, "the first", x.nerved(1), 6);
        is(36, "not without", x.nerved(2), 0);
        x.see(1, 0, 0, 10);
        is(36, "now, too", x.nerved(0), 9);
        x.see(1, 0, 20, 0);
        is(36, "how many", x.nerved(0), 0);
        is(36, "none", x.nerved(1), NONE);
        x.forget();
        x.see(0, 1, 10, 0);
        is(36, "over", x.nerved(0), 9);
        is(36, "over", x.nerved(1), 0);
        is(36, "over without", x.nerved(2), 1);
        x.forget();
        x.see(0, 1, 3, 7);
        x.weeks(2);
        is(36, "weeks count from now on", x.nerved(2), 0);
        x.undo();
        is(36, "weeks count from now on", x.nerved(2), 1);
        WivesQuarrels y = of(THREE + "quarrel 0 1 10 0;");
        y.see(0, 2, 5, 0);
        WivesQuarrels z = of(TWO + "quarrel 0 1 50 0;heats nerve-9;");
        z.see(0, 1, 1, 45);
        is(36, "just the nerve 0 of 0", z.nerved(0), 1);
        is(36, "just the nerve 0 of 0", z.nerved(1), 0);
        is(36, "where is no quarrel it is 0", y.nerved(2), 1);
        y.die(2);
        is(36, "of the living", y.nerved(0), 18);
        y.die(0);
        is(36, "of the living", y.nerved(1), 10);
        is(36, "nobody's nerve changes", y.person(0, 0) * 10 + y.person(1, 0), 54);
        Check.missing(36, () -> x.nerved(-1), () -> x.nerved(3));
    }

    private static void look() {
        WivesQuarrels x = of(THREE + "quarrel 0 1 10 0;quarrel 0 2 10 0;quarrel 1 2 10 0;");
        is(37, "the first of like ones", x.look(0), 1);
        is(37, "two", x.look(1), 2);
        x.see(0, 1, 1, 9);
        x.see(0, 2, 1, 11);
        // 0 can't have more nerve, so 2 has 5 or more; 1 and 2 have more than 9 by 6 or more.
        is(37, "by these", x.nerved(0), 5);
        is(37, "which", x.look(0), 12);
        is(37, "how many unlike ones", x.look(1), 2);
        x.see(1, 2, 1, 50);
        is(37, "without any nerve", x.look(0), NONE);
        is(37, "without any nerve", x.look(1), 0);
        WivesQuarrels y = of(THREE);
        is(37, "without any quarrel", y.look(0), NONE);
        is(37, "without any quarrel", y.look(1), 0);
        WivesQuarrels z = of(TWO + "quarrel 0 1 50 0;heats nerve-9;");
        // 0 can make it 4 to 8, 10 to 13 (4 to 13 but 9), and 1 makes it 5 to 14 but 9: from -5 to 5 but 0.
        is(37, "by each nerve", z.look(1), 10);
        WivesQuarrels v = of("person 5 0;person 5 0;quarrel 0 1 2 0;heats nerve-12;");
        // 5 to 14 but 10: -7 to -3 are over, and so is -1 (behind 2 weeks); 0, 1, 2 stay unlike.
        is(37, "over is one", v.look(1), 4);
        Check.missing(37, () -> x.look(-1), () -> x.look(2));
    }

    private static void forget() {
        WivesQuarrels x = of(TWO);
        x.see(0, 1, 1, 50);
        is(38, "seen", x.nerved(0), 0);
        x.forget();
        is(38, "forgotten", x.count(9), 0);
        is(38, "forgotten", x.nerved(0), 18);
        is(38, "seen anew", x.see(0, 1, 1, 0), 1);
    }

    private static void game() {
        WivesQuarrels x = of(COUPLE);
        is(39, "how many", x.game(0, 2, 0), 2);
        is(39, "the first", x.game(0, 2, 1), 0);
        is(39, "none", x.game(0, 1, 0), NONE);
        is(39, "none", x.game(0, 1, 1), NONE);
        WivesQuarrels y = of("person 0 0;person 9 0;quarrel 0 1 20 0;heats 0;");
        is(39, "one gives in", y.game(0, 1, 0), 1);
        is(39, "the first does", y.game(0, 1, 1), 10);
        is(39, "the other one does", y.game(1, 0, 1), 1);
        WivesQuarrels z = of("person 9 0;person 9 0;quarrel 0 1 99 0;heats 0;");
        is(39, "each could give in", z.game(0, 1, 0), 2);
        is(39, "the first", z.game(0, 1, 1), 1);
        WivesQuarrels v = of("person 0 0;person 0 0;quarrel 0 1 5 0;");
        is(39, "soon over", v.game(0, 1, 0), 3);
        is(39, "soon over", v.game(0, 1, 1), 0);
        WivesQuarrels w = of("person 1 0;person 1 0;quarrel 0 1 17 0;heats 0;");
        is(39, "17 by 9 is cut down", w.game(0, 1, 0), 3);
        Check.missing(39, () -> x.game(-1, 0, 0), () -> x.game(0, 5, 0), () -> x.game(0, 2, 2), () -> x.game(0, 0, 2),
            () -> x.game(5, 5, 0));
        Check.illegal(39, () -> x.game(0, 0, 0), () -> x.game(1, 1, 1));
    }

    private static void years() {
        WivesQuarrels x = of(COUPLE);
        int[][] due = {{1, 1, 31, 89, 4}, {1, 9, 31, 61, 3}, {2, 9, 30, 64, 3}, {2, 20, 28, 20, 1}, {3, 9, 27, 9, 1},
            {5, 9, 27, 9, 1}, {7, 20, 15, 30, 2}, {-1, 1, 31, 109, 5}, {-1, 9, 15, 61, 3}, {-1, 60, 0, 0, 0},
            {0, 1, 23, 29, 1}, {0, 20, 21, 10, 1}, {2147483647, 9, 15, 61, 3}, {-2147483648, 60, 1, 0, 0}};
        for (int[] d : due) {
            for (int what = 0; what <= 2; what++) {
                is(40, "years " + d[0] + " " + d[1] + " " + what, x.years(d[0], d[1], what), d[2 + what]);
            }
        }
        is(40, "no week", x.years(9, 0, 1), 93);
        is(40, "nothing changes", x.count(1) * 1000 + x.count(4), 31093);
        is(40, "nobody", of("").years(1, 60, 0), 0);
        Check.missing(40, () -> x.years(1, 1, 3), () -> x.years(1, 61, -1));
        Check.illegal(40, () -> x.years(1, 61, 0), () -> x.years(1, -1, 2));
    }

    private static void image() {
        WivesQuarrels x = of(COUPLE);
        x.weeks(1);
        x.see(0, 1, 1, 1);
        x.image();
        x.weeks(1);
        x.image();
        x.weeks(1);
        x.restore();
        is(41, "in place of another one", x.count(2), 2);
        is(41, "its acts", x.count(8), 2);
    }

    private static void restore() {
        WivesQuarrels x = of(COUPLE);
        x.weeks(2);
        x.weeks(0);
        x.see(0, 0, 1, 1);
        x.see(0, 1, 1, 1);
        Check.is(42, "there is none", x.restore(), false);
        x.image();
        x.undo();
        x.die(0);
        x.die(0);
        x.wed(1, 2);
        x.see(0, 1, 2, 2);
        x.see(0, 1, 2, 100);
        Check.town(x, "person");
        x.feed(0, 0, 0, 0, 0);
        for (int again = 0; again < 2; again++) {
            Check.is(42, "restore", x.restore(), true);
            is(42, "the week", x.count(2), 2);
            is(42, "who lives", x.count(1), 31);
            is(42, "wed", x.person(1, 2), 0);
            is(42, "heat", x.count(4), 85);
            is(42, "cuts", x.cuts(), 4);
            is(42, "acts", x.count(8), 1);
            is(42, "seen", x.count(9), 1);
            is(42, "status 0", x.count(11), 0);
            is(42, "status 1", x.count(12), 1);
            is(42, "status 2", x.count(13), 1);
            is(42, "the tape isn't in it", x.count(10), 20);
            is(42, "undo", x.undo(), 0);
            is(42, "the week then", x.count(2), 0);
            is(42, "heat then", x.count(4), 93);
            x.pick(0, 4, 9, 9);
        }
        x.town(0);
        Check.is(42, "gone with another town", x.restore(), false);
        restoreActs();
        restoreSights();
    }

    private static void restoreActs() {
        WivesQuarrels x = of(COUPLE);
        x.weeks(2);
        x.weeks(3);
        x.image();
        x.undo();
        x.undo();
        x.pick(0, 4, 9, 9);
        x.die(0);
        x.restore();
        is(42, "undo", x.undo(), 1);
        is(42, "the week", x.count(2), 2);
        is(42, "no other act", x.count(1) * 10 + x.count(3), 314);
        WivesQuarrels y = of(COUPLE);
        for (int i = 0; i < 47; i++) {
            y.weeks(1);
        }
        y.image();
        for (int i = 0; i < 5; i++) {
            y.weeks(2);
        }
        y.restore();
        for (int i = 39; i >= 0; i--) {
            is(42, "undo of the image", y.undo(), i);
            is(42, "the week", y.count(2), i + 7);
        }
        y.restore();
        is(42, "the week", y.count(2), 47);
        is(42, "acts", y.count(8), 40);
    }

    private static void restoreSights() {
        WivesQuarrels x = of(THREE + "quarrel 0 1 10 0;quarrel 1 2 20 0;");
        x.see(0, 1, 2, 8);
        x.image();
        x.forget();
        is(42, "seen anew", x.see(1, 2, 3, 50), 1);
        is(42, "that isn't so", x.nerved(2), 0);
        x.restore();
        is(42, "that is so", x.nerved(2), 1);
        x.forget();
        x.see(0, 1, 2, 50);
        x.restore();
        is(42, "its heat", x.nerved(2), 1);
        x.forget();
        x.see(0, 1, 3, 8);
        x.restore();
        is(42, "its weeks", x.nerved(2), 1);
        x.forget();
        x.see(1, 2, 2, 8);
        x.restore();
        is(42, "its people", x.nerved(2), 1);
    }
}
