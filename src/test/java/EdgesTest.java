import java.util.function.BiFunction;
import java.util.function.Function;
import java.util.function.Supplier;

/** The sentences under "Promise 1" to "Promise 42", each with a test of its own, at its boundaries. */
public final class EdgesTest {
    private static final int NONE = Edge.NONE;
    private static final int LEAST = Integer.MIN_VALUE;
    private static final int MOST = Integer.MAX_VALUE;
    private static final int BLANKS = 0x20202020;
    private static final String TWO = "person 5 1;person 4 2;";
    private static final String THREE = "person 5 1;person 4 2;person 3 4;";
    private static final String FOUR = THREE + "person 2 8;";
    private static final String EIGHT = "person 1 1;".repeat(8);

    public static void main(String[] args) {
        newObject();
        feed();
        town();
        townGone();
        fault();
        count();
        countOfCalls();
        person();
        noSuchPerson();
        quarrel();
        weeks();
        die();
        wed();
        settle();
        pick();
        pickRefused();
        undo();
        then();
        over();
        peace();
        later();
        comesInto();
        camps();
        between();
        drawers();
        deaths();
        friends();
        spared();
        match();
        ready();
        mildest();
        coldest();
        triples();
        alone();
        foes();
        word();
        single();
        cuts();
        see();
        nerved();
        look();
        forget();
        game();
        years();
        image();
        restore();
        Edge.endOfPromises();
    }

    private static WivesQuarrels of(String text) {
        return Edge.of(text);
    }

    private static void is(String call, int got, int due) {
        Edge.is(call, got, due);
    }

    private static void is(String call, boolean got, boolean due) {
        Edge.is(call, got, due);
    }

    /** Another what, on both sides, throws NoSuchElementException, and all stays. */
    private static void noSuchWhat(Supplier<WivesQuarrels> made, int last,
            BiFunction<WivesQuarrels, Integer, Integer> call) {
        WivesQuarrels x = made.get();
        int[] before = Edge.state(x);
        Edge.missing(() -> call.apply(x, -1), () -> call.apply(x, last + 1), () -> call.apply(x, LEAST),
            () -> call.apply(x, MOST));
        Edge.same("another what", x, before);
        call.apply(x, 0);
        call.apply(x, last);
    }

    /** WEEKS that aren't 0 to 60 throw IllegalArgumentException, and all stays. */
    private static void noSuchWeeks(Supplier<WivesQuarrels> made, BiFunction<WivesQuarrels, Integer, Integer> call) {
        WivesQuarrels x = made.get();
        int[] before = Edge.state(x);
        Edge.illegal(() -> call.apply(x, -1), () -> call.apply(x, 61), () -> call.apply(x, LEAST),
            () -> call.apply(x, MOST));
        Edge.same("wrong weeks", x, before);
        call.apply(x, 0);
        call.apply(x, 60);
    }

    private static void newObject() {
        Edge.promise(1, "Nobody.", () -> {
            WivesQuarrels x = new WivesQuarrels();
            for (int what = 0; what <= 13; what++) {
                is("count " + what, x.count(what), 0);
            }
            is("fault", x.fault(), NONE);
            is("undo", x.undo(), NONE);
            is("restore", x.restore(), false);
            is("peace", x.peace(), 0);
            is("camps, drawers, deaths", x.camps() + x.drawers() + x.deaths(), 0);
            is("ready, triples, alone", x.ready() + x.triples() + x.alone(), 0);
            is("single, cuts, a word", x.single() + x.cuts() + x.word(0), 0);
            is("mildest", x.mildest(), NONE);
            is("coldest", x.coldest(60), NONE);
            is("hottest", x.later(60, 0), NONE);
            is("left", x.later(0, 1), 0);
            is("bitter", x.later(0, 2), NONE);
            is("nerved", x.nerved(0), 0);
            is("nerved first", x.nerved(1), NONE);
            is("nerved without", x.nerved(2), 1);
            is("look", x.look(0), NONE);
            is("look unlike", x.look(1), 0);
            is("years", x.years(1, 60, 0) + x.years(1, 60, 1) + x.years(1, 60, 2), 0);
            x.forget();
            is("town of no bytes", x.town(0), 0);
            is("weeks of nobody", x.weeks(20), 20);
            WivesQuarrels y = new WivesQuarrels();
            is("the first act", y.weeks(1), 1);
            is("the next act", y.weeks(20), 21);
            is("undo", y.undo(), 1);
            is("the week", y.count(2), 1);
            is("undo", y.undo(), 0);
            is("the week", y.count(2), 0);
        });
    }

    /** Twenty bytes in one call: blanks, but one. */
    private static void feedOne(WivesQuarrels x, int place, int sign) {
        int[] five = {BLANKS, BLANKS, BLANKS, BLANKS, BLANKS};
        int shift = 24 - 8 * (place % 4);
        five[place / 4] = five[place / 4] & ~(255 << shift) | sign << shift;
        x.feed(five[0], five[1], five[2], five[3], five[4]);
    }

    private static int feedBlanks(WivesQuarrels x, int times) {
        int got = 0;
        for (int i = 0; i < times; i++) {
            got = x.feed(BLANKS, BLANKS, BLANKS, BLANKS, BLANKS);
        }
        return got;
    }

    private static void feed() {
        Edge.promise(2, "Twenty bytes come behind the tape, of each number the highest first", () -> {
            WivesQuarrels x = new WivesQuarrels();
            for (int place = 0; place < 20; place++) {
                feedOne(x, place, '#');
                is("a wrong byte", x.town(20), 1);
                is("its place", x.fault(), place);
            }
            for (int place = 0; place < 20; place++) {
                feedBlanks(x, 1);
                feedOne(x, place, 255);
                is("a wrong byte behind", x.town(40), 1);
                is("its place behind", x.fault(), 20 + place);
            }
        });
        Edge.promise(2, "how many it has", () -> {
            WivesQuarrels x = new WivesQuarrels();
            for (int i = 1; i <= 35; i++) {
                is("feed", x.feed(0, LEAST, MOST, -1, 1), 20 * i);
                is("count", x.count(10), 20 * i);
            }
        });
        Edge.promise(2, "NONE, and none come, if it would have more than 700.", () -> {
            WivesQuarrels x = new WivesQuarrels();
            is("to 680", feedBlanks(x, 34), 680);
            is("to 700", feedBlanks(x, 1), 700);
            int[] before = Edge.state(x);
            is("beyond", x.feed(-1, -1, -1, -1, -1), NONE);
            is("beyond again", x.feed(0, 0, 0, 0, 0), NONE);
            Edge.same("a feed that doesn't come", x, before);
            is("none of them came", x.town(700), 0);
            is("room again", feedBlanks(x, 1), 20);
        });
    }

    private static void town() {
        Edge.promise(3, "The tape's first n bytes", () -> {
            WivesQuarrels x = new WivesQuarrels();
            Check.feed(x, "person 7 1;person 8 2;");
            is("the first line", x.town(11), 0);
            is("people", x.count(0), 1);
            Check.feed(x, "person 7 1;person 8 2;");
            is("to the last byte but one", x.town(21), 1);
            is("it ends too soon", x.fault(), 21);
            Check.feed(x, "person 7 1;person 8 2;######");
            is("not one more", x.town(22), 0);
            is("people", x.count(0), 2);
            Check.feed(x, "###");
            is("none of them", x.town(0), 0);
            is("people", x.count(0), 0);
            Check.feed(x, "person 7 1234567890;");
            is("a number that is cut", x.town(11), 1);
            is("it ends too soon", x.fault(), 11);
            Check.feed(x, "persons 1 1;");
            is("a word that is cut", x.town(6), 1);
            is("it ends too soon", x.fault(), 6);
            Check.feed(x, "x".repeat(20));
            x.town(20);
            Check.feed(x, "person");
            is("nothing of an earlier tape", x.town(6), 1);
            is("it ends too soon", x.fault(), 6);
        });
        Edge.promise(3, "(it is empty then)", () -> {
            WivesQuarrels x = new WivesQuarrels();
            feedBlanks(x, 35);
            is("all bytes", x.town(700), 0);
            is("the tape", x.count(10), 0);
            feedBlanks(x, 2);
            is("some bytes", x.town(3), 0);
            is("the tape", x.count(10), 0);
            feedBlanks(x, 2);
            is("no bytes", x.town(0), 0);
            is("the tape", x.count(10), 0);
            Check.feed(x, "#");
            is("a fault", x.town(1), 1);
            is("the tape with a fault", x.count(10), 0);
            is("from the start again", feedBlanks(x, 1), 20);
        });
        Edge.promise(3, "are a TOWN, all anew: 0", () -> {
            WivesQuarrels x = of(FOUR + "wed 0 1;quarrel 2 3 50 9;heats 9;cuts 0;");
            x.weeks(3);
            x.die(2);
            is("town", Check.town(x, "lawyer 1 3;person 2 4;person 3 5;quarrel 0 2 20 0;"), 0);
            is("people", x.count(0), 3);
            is("who lives", x.count(1), 7);
            is("the week", x.count(2), 0);
            is("quarrels", x.count(3), 1);
            is("wed", x.person(0, 2), NONE);
            is("a drawer", x.person(0, 1), 3);
            is("a lawyer", x.person(0, 4), 1);
            is("no lawyer", x.person(1, 4), 0);
            is("without the old HEATS", x.then(0, 2, 1, 0), 19);
            is("without the old CUTS", x.quarrel(0, 2, 4), 1);
            is("an empty one", x.town(0), 0);
            is("nobody", x.count(0) + x.count(1) + x.count(3), 0);
            // Rules as long as can be, again and again.
            for (int i = 1; i <= 4; i++) {
                String rule = "heats " + i + "+0*1".repeat(160) + ";";
                is("a long text", Check.town(x, TWO + "quarrel 0 1 50 0;" + rule), 0);
                is("by its rule", x.then(0, 1, 1, 0), 50 + i);
            }
        });
        Edge.promise(3, "or the FAULT (all stays, but STATUS).", () -> {
            WivesQuarrels x = of(THREE + "wed 0 1;quarrel 1 2 30 9;heats 1;cuts heat<32;");
            x.weeks(2);
            x.see(1, 2, 3, 99);
            x.image();
            x.die(0);
            int[] before = Edge.state(x);
            // The fault comes last, behind people, a quarrel and rules that are other ones.
            is("town", Check.town(x, "lawyer 9 9;lawyer 8 8;wed 0 1;quarrel 0 1 9 9;heats 9;cuts 9;heats"), 5);
            before[11]++;
            before[14] = x.fault();
            Edge.same("a fault", x, before);
            is("HEATS stays", x.then(1, 2, 1, 0), 33);
            is("CUTS stays", x.quarrel(1, 2, 4), 0);
            is("what is SEEN stays", x.nerved(2), 0);
            is("ACTS stay", x.undo(), 1);
            is("the dead lives again", x.person(0, 3), 1);
            is("the image stays", x.restore(), true);
        });
    }

    private static void townGone() {
        Edge.promise(3, "ACTS, what is SEEN, the image are gone.", () -> {
            WivesQuarrels x = of(TWO + "quarrel 0 1 30 9;");
            x.weeks(1);
            x.see(0, 1, 1, 1);
            x.image();
            x.weeks(0);
            is("town", Check.town(x, TWO + "quarrel 0 1 30 9;"), 0);
            is("acts", x.count(8), 0);
            is("undo", x.undo(), NONE);
            is("seen", x.count(9), 0);
            is("all seen is so", x.nerved(2), 1);
            is("restore", x.restore(), false);
            is("STATUS isn't gone", x.count(12), 1);
            is("an act anew", x.weeks(1), 1);
            is("undo", x.undo(), 0);
            is("seen anew", x.see(0, 1, 0, 30), 1);
            is("that alone", x.nerved(2), 1);
        });
        Edge.promise(3, "IllegalArgumentException: the tape has not so many, n below 0 (nothing changes).", () -> {
            WivesQuarrels x = of(TWO + "quarrel 0 1 30 9;");
            Check.town(x, "person 1 1;#");
            x.weeks(1);
            x.image();
            Edge.illegal(() -> x.town(1));
            Check.feed(x, "person 1 1;");
            int[] before = Edge.state(x);
            Edge.illegal(() -> x.town(21), () -> x.town(701), () -> x.town(MOST), () -> x.town(-1),
                () -> x.town(LEAST));
            Edge.same("a wrong n", x, before);
            is("the image stays", x.restore(), true);
            is("all that the tape has", x.town(20), 0);
            is("its text", x.count(0), 1);
        });
    }

    private static void fault() {
        Edge.promise(4, "The place of the latest town()'s FAULT", () -> {
            WivesQuarrels x = new WivesQuarrels();
            is("at the start", Check.town(x, "#"), 1);
            is("place 0", x.fault(), 0);
            is("another one", Check.town(x, "person 1 1;wed 0 1;"), 3);
            is("its place", x.fault(), 17);
            x.image();
            Edge.illegal(() -> x.town(1), () -> x.town(-1));
            is("a town() that throws is none", x.fault(), 17);
            feedBlanks(x, 34);
            feedOne(x, 19, '#');
            is("at the last byte", x.town(700), 1);
            is("place 699", x.fault(), 699);
            feedBlanks(x, 34);
            feedOne(x, 19, 'x');
            is("at the last byte", x.town(700), 1);
            is("place 699", x.fault(), 699);
            x.restore();
            is("the latest one still", x.fault(), 699);
        });
        Edge.promise(4, "NONE without.", () -> {
            WivesQuarrels x = new WivesQuarrels();
            is("no town yet", x.fault(), NONE);
            is("a town", Check.town(x, TWO), 0);
            is("without", x.fault(), NONE);
            Check.town(x, "#");
            is("with", x.fault(), 0);
            is("a town", x.town(0), 0);
            is("without again", x.fault(), NONE);
        });
    }

    private static void counted(String text, int what, int due) {
        is("count(" + what + ") of '" + text + "'", of(text).count(what), due);
    }

    private static void count() {
        Edge.promise(5, "0 PEOPLE", () -> {
            counted("", 0, 0);
            counted("person 0 0;", 0, 1);
            WivesQuarrels x = of(EIGHT);
            x.die(7);
            is("the dead, too", x.count(0), 8);
        });
        Edge.promise(5, "1 who lives (bits)", () -> {
            counted("", 1, 0);
            WivesQuarrels x = of(EIGHT);
            for (int p = 7; p >= 0; p--) {
                is("who lives", x.count(1), (2 << p) - 1);
                x.die(p);
            }
            is("none lives", x.count(1), 0);
        });
        Edge.promise(5, "2 the WEEK", () -> {
            WivesQuarrels x = of(TWO);
            is("at first", x.count(2), 0);
            toWeek999(x);
            is("at last", x.count(2), 999);
            x.undo();
            is("undone", x.count(2), 980);
        });
        Edge.promise(5, "3 QUARRELS", () -> {
            counted(TWO, 3, 0);
            counted(Edge.allAgainstAll("1", "0"), 3, 28);
        });
        Edge.promise(5, "4 HEAT of all", () -> {
            counted(TWO, 4, 0);
            counted(Edge.allAgainstAll("99", "0"), 4, 2772);
        });
        Edge.promise(5, "5 WORDS that are needed (bits)", () -> {
            counted(EIGHT, 5, 0);
            counted(Edge.allAgainstAll("1", "0"), 5, 1);
            counted(Edge.allAgainstAll("1", "9"), 5, 512);
            StringBuilder b = new StringBuilder("person 0 0;".repeat(8));
            for (int word = 0; word <= 9; word++) {
                b.append("quarrel ").append(word / 5).append(' ').append(3 + word % 5).append(" 1 ").append(word);
                b.append(';');
            }
            counted(b.toString(), 5, 1023);
        });
        Edge.promise(5, "6 TABLES", () -> {
            counted("", 6, 0);
            counted("person 1 1;", 6, 1);
            counted(EIGHT, 6, 1);
            counted(Edge.allAgainstAll("1", "1"), 6, 8);
            WivesQuarrels x = of(TWO);
            x.die(0);
            x.die(1);
            is("none lives", x.count(6), 0);
        });
        Edge.promise(5, "7 ASKED (bits)", () -> {
            counted("", 7, 0);
            counted(EIGHT, 7, 255);
            counted(Edge.allAgainstAll("1", "1"), 7, 1);
            WivesQuarrels x = of(TWO);
            x.die(0);
            is("one lives", x.count(7), 2);
            x.die(1);
            is("none lives", x.count(7), 0);
        });
    }

    private static void countOfCalls() {
        Edge.promise(5, "8 ACTS that are kept", () -> {
            WivesQuarrels x = of(TWO);
            for (int i = 0; i <= 41; i++) {
                is("acts", x.count(8), Math.min(i, 40));
                x.weeks(1);
            }
            x.weeks(0);
            is("a refused one isn't", x.count(8), 40);
            x.undo();
            is("nor is one undone", x.count(8), 39);
        });
        Edge.promise(5, "9 SEEN", () -> {
            WivesQuarrels x = of(TWO);
            for (int i = 0; i <= 9; i++) {
                is("seen", x.count(9), Math.min(i, 8));
                x.see(0, 1, 0, 0);
            }
            x.forget();
            is("forgotten", x.count(9), 0);
        });
        Edge.promise(5, "10 bytes of the tape", () -> {
            WivesQuarrels x = new WivesQuarrels();
            for (int i = 0; i <= 36; i++) {
                is("bytes", x.count(10), Math.min(20 * i, 700));
                feedBlanks(x, 1);
            }
            x.town(5);
            is("empty", x.count(10), 0);
        });
        Edge.promise(5, "11 to 13 STATUS 0 to 2.", () -> {
            WivesQuarrels x = of(TWO);
            for (int i = 0; i < 30; i++) {
                is("texts", x.count(11), i);
                is("acts", x.count(12), 2 * i);
                is("sights", x.count(13), 3 * i);
                Check.town(x, "#");
                x.weeks(0);
                x.wed(0, 0);
                x.see(0, 0, 0, 0);
                x.see(0, 1, 21, 0);
                x.see(0, 1, 0, 100);
            }
        });
        Edge.promise(5, "NoSuchElementException: another what.", () ->
            noSuchWhat(() -> of(TWO), 13, WivesQuarrels::count));
    }

    /** 50 calls. */
    private static void toWeek999(WivesQuarrels x) {
        for (int i = 0; i < 49; i++) {
            x.weeks(20);
        }
        x.weeks(19);
    }

    private static void person() {
        Edge.promise(6, "Of one: 0 NERVE", () -> {
            WivesQuarrels x = of("person 0 0;person 9 0;");
            is("least", x.person(0, 0), 0);
            is("most", x.person(1, 0), 9);
            x.die(1);
            is("of the dead", x.person(1, 0), 9);
        });
        Edge.promise(6, "1 the DRAWER", () -> {
            WivesQuarrels x = of("person 0 0;person 9 1023;");
            is("empty", x.person(0, 1), 0);
            is("full", x.person(1, 1), 1023);
            x.die(1);
            is("of the dead", x.person(1, 1), 1023);
        });
        Edge.promise(6, "2 to whom one is WED (NONE)", () -> {
            WivesQuarrels x = of(EIGHT + "wed 7 0;");
            is("the first of all", x.person(7, 2), 0);
            is("the last of all", x.person(0, 2), 7);
            is("none", x.person(1, 2), NONE);
            x.die(0);
            is("a widower", x.person(7, 2), NONE);
            is("the dead", x.person(0, 2), NONE);
        });
        Edge.promise(6, "3 whether one lives (1)", () -> {
            WivesQuarrels x = of(EIGHT);
            x.die(0);
            is("dead", x.person(0, 3), 0);
            is("lives", x.person(1, 3), 1);
            is("lives", x.person(7, 3), 1);
            x.die(7);
            is("dead", x.person(7, 3), 0);
        });
        Edge.promise(6, "4 whether a lawyer (1)", () -> {
            WivesQuarrels x = of("person 1 1;lawyer 1 1;".repeat(4));
            for (int p = 0; p < 8; p++) {
                is("each other one", x.person(p, 4), p % 2);
            }
            x.die(7);
            is("a dead one, too", x.person(7, 4), 1);
            is("all", of("lawyer 1 1;".repeat(8)).person(0, 4), 1);
        });
        Edge.promise(6, "5 with whom one has QUARRELS (bits)", () -> {
            WivesQuarrels x = of(Edge.allAgainstAll("1", "1"));
            is("all others", x.person(0, 5), 254);
            is("all others", x.person(7, 5), 127);
            x.die(7);
            is("not the dead", x.person(0, 5), 126);
            is("none of the dead", x.person(7, 5), 0);
        });
        Edge.promise(6, "6 HEAT of these together.", () -> {
            WivesQuarrels x = of(Edge.allAgainstAll("99", "1"));
            is("most", x.person(3, 6), 693);
            x.die(3);
            is("of the dead", x.person(3, 6), 0);
            is("without the dead", x.person(4, 6), 594);
        });
    }

    private static void noSuchPerson() {
        Edge.promise(6, "NoSuchElementException: no such PERSON (as everywhere), what.", () -> {
            noSuchWhat(() -> of(TWO), 6, (x, what) -> x.person(0, what));
            WivesQuarrels x = of(TWO + "quarrel 0 1 30 0;");
            int[] before = Edge.state(x);
            for (int nobody : new int[] {-1, 2, 8, LEAST, MOST}) {
                Edge.missing(() -> x.person(nobody, 0), () -> x.die(nobody), () -> x.comesInto(nobody, 0),
                    () -> x.friends(nobody), () -> x.spared(nobody), () -> x.match(nobody));
                noSuchOfTwo(x, nobody, 0);
                noSuchOfTwo(x, 0, nobody);
                noSuchOfTwo(x, nobody, nobody);
            }
            Edge.same("no such person", x, before);
            Edge.missing(() -> new WivesQuarrels().person(0, 0), () -> new WivesQuarrels().match(0));
            is("the last one is there", of(EIGHT).person(7, 3), 1);
        });
    }

    private static void noSuchOfTwo(WivesQuarrels x, int a, int b) {
        Edge.missing(() -> x.quarrel(a, b, 0), () -> x.wed(a, b), () -> x.settle(a, b), () -> x.pick(a, b, 1, 1),
            () -> x.then(a, b, 0, 0), () -> x.over(a, b), () -> x.between(a, b), () -> x.foes(a, b),
            () -> x.see(a, b, 0, 0), () -> x.game(a, b, 0));
    }

    private static void quarrel() {
        Edge.promise(7, "Of a QUARREL of two: 0 HEAT, 1 the WORD, 2 'cut'", () -> {
            WivesQuarrels x = of(EIGHT + "quarrel 7 6 99 9;quarrel 0 1 1 0;heats 0;cuts heat=99;");
            is("most heat", x.quarrel(6, 7, 0), 99);
            is("last word", x.quarrel(7, 6, 1), 9);
            is("least heat", x.quarrel(1, 0, 0), 1);
            is("first word", x.quarrel(0, 1, 1), 0);
            for (int i = 0; i < 6; i++) {
                is("'cut'", x.quarrel(6, 7, 2), Math.min(20 * i, 99));
                is("no 'cut'", x.quarrel(0, 1, 2), 0);
                x.weeks(20);
            }
        });
        Edge.promise(7, "3 whether it can be SETTLED now (1)", () -> {
            WivesQuarrels x = of("person 1 0;person 1 0;lawyer 1 512;quarrel 0 1 1 9;");
            is("by a lawyer", x.quarrel(0, 1, 3), 1);
            x.die(2);
            is("not by a dead one", x.quarrel(0, 1, 3), 0);
            x.undo();
            is("it is there still", x.quarrel(0, 1, 3), 1);
        });
        Edge.promise(7, "4 whether they would CUT each other by CUTS as it is (1)", () -> {
            String two = TWO + "quarrel 0 1 20 0;";
            is("CUTS 0", of(two + "cuts 0;").quarrel(0, 1, 4), 0);
            is("CUTS 1", of(two + "cuts 1;").quarrel(0, 1, 4), 1);
            is("CUTS -1", of(two + "cuts 0-1;").quarrel(0, 1, 4), 0);
            is("CUTS 2", of(two + "cuts 2;").quarrel(0, 1, 4), 1);
            is("as HEAT is", of(two + "heats 1;cuts heat=20;").quarrel(0, 1, 4), 1);
            is("as the WEEK is", of(two + "cuts week;").quarrel(0, 1, 4), 0);
            is("without CUTS at 20", of(two).quarrel(0, 1, 4), 1);
            is("without CUTS at 19", of(TWO + "quarrel 0 1 19 0;").quarrel(0, 1, 4), 0);
            WivesQuarrels x = of(two + "heats 0;cuts 1;");
            for (int i = 0; i < 5; i++) {
                x.weeks(20);
            }
            is("at most 'cut', too", x.quarrel(0, 1, 4), 1);
        });
        Edge.promise(7, "NONE, 4, too: there is none.", () -> {
            WivesQuarrels x = of(THREE + "quarrel 0 1 1 0;cuts 1;");
            for (int what = 0; what <= 4; what++) {
                is("none", x.quarrel(0, 2, what), NONE);
                is("with oneself", x.quarrel(1, 1, what), NONE);
            }
            x.weeks(1);
            for (int what = 0; what <= 4; what++) {
                is("over", x.quarrel(0, 1, what), NONE);
            }
        });
        Edge.promise(7, "NoSuchElementException: also another what.", () -> {
            noSuchWhat(() -> of(TWO + "quarrel 0 1 1 0;"), 4, (x, what) -> x.quarrel(0, 1, what));
            noSuchWhat(() -> of(TWO), 4, (x, what) -> x.quarrel(0, 1, what));
            noSuchWhat(() -> of(TWO), 4, (x, what) -> x.quarrel(0, 0, what));
        });
    }

    private static void weeks() {
        Edge.promise(8, "WEEKS go by: the WEEK.", () -> {
            WivesQuarrels x = of(TWO + "quarrel 0 1 50 0;");
            is("fewest", x.weeks(1), 1);
            is("heat", x.quarrel(0, 1, 0), 49);
            is("most", x.weeks(20), 21);
            is("heat", x.quarrel(0, 1, 0), 29);
            is("two acts", x.count(8), 2);
        });
        Edge.promise(8, "NONE (STATUS 1): not 1 to 20, it would be above 999.", () -> {
            for (int many : new int[] {0, -1, 21, LEAST, MOST}) {
                Edge.refused(1, () -> of(TWO + "quarrel 0 1 50 0;"), "weeks(" + many + ")", x -> x.weeks(many));
            }
            WivesQuarrels y = of(TWO);
            for (int i = 0; i < 49; i++) {
                y.weeks(20);
            }
            is("to 1000", y.weeks(20), NONE);
            is("refused", y.count(12), 1);
            is("to 999", y.weeks(19), 999);
            is("to 1000", y.weeks(1), NONE);
            is("most", y.weeks(MOST), NONE);
            is("refused", y.count(12), 3);
            is("the week", y.count(2), 999);
            y.undo();
            is("below 999 again", y.weeks(18), 998);
            is("to 999 again", y.weeks(1), 999);
        });
    }

    private static void die() {
        Edge.promise(9, "One DIES: how many QUARRELS there are then.", () -> {
            WivesQuarrels x = of(Edge.allAgainstAll("1", "1"));
            int[] left = {21, 15, 10, 6, 3, 1, 0, 0};
            for (int p = 0; p < 8; p++) {
                is("left", x.die(p), left[p]);
            }
            is("acts", x.count(8), 8);
            is("one without quarrels", of(TWO).die(0), 0);
        });
        Edge.promise(9, "NONE (STATUS 1): one is dead.", () -> {
            Edge.refused(1, () -> dead(THREE + "wed 0 1;quarrel 0 2 9 9;", 0), "die(0)", x -> x.die(0));
            Edge.refused(1, () -> dead(TWO, 1), "die(1)", x -> x.die(1));
            WivesQuarrels x = dead(TWO, 1);
            x.undo();
            is("who lives again", x.die(1), 0);
        });
    }

    private static WivesQuarrels dead(String text, int person) {
        WivesQuarrels x = of(text);
        x.die(person);
        return x;
    }

    private static void wed() {
        Edge.promise(10, "WED: true.", () -> {
            WivesQuarrels x = of(EIGHT + "quarrel 0 7 9 9;");
            is("the first and the last", x.wed(7, 0), true);
            is("to whom", x.person(0, 2), 7);
            is("to whom", x.person(7, 2), 0);
            is("quarrels", x.count(3), 0);
            is("acts", x.count(8), 1);
            x.die(7);
            is("a widower", x.wed(0, 6), true);
        });
        Edge.promise(10, "False (STATUS 1): both are one, one is dead, WED.", () -> {
            Function<WivesQuarrels, Function<int[], Integer>> wed = x -> two -> x.wed(two[0], two[1]) ? 1 : NONE;
            int[][] wrong = {{3, 3}, {0, 0}, {1, 1}, {3, 0}, {0, 3}, {0, 1},
                {1, 2}, {2, 1}, {1, 3}, {3, 1}, {2, 3}, {3, 2}};
            for (int[] two : wrong) {
                Edge.refused(1, () -> dead(FOUR + "wed 1 2;quarrel 1 2 9 9;", 0), "wed(" + two[0] + ", " + two[1] + ")",
                    x -> wed.apply(x).apply(two));
            }
        });
    }

    private static void settle() {
        Edge.promise(11, "SETTLED: the WORD.", () -> {
            WivesQuarrels x = of("person 1 1;person 1 512;quarrel 0 1 99 0;");
            is("the first word", x.settle(0, 1), 0);
            is("quarrels", x.count(3), 0);
            is("acts", x.count(8), 1);
            x.pick(0, 1, 1, 9);
            is("the last word", x.settle(1, 0), 9);
            is("quarrels", x.count(3), 0);
        });
        Edge.promise(11, "NONE (STATUS 1): there is no QUARREL, it can't be.", () -> {
            String text = "person 1 0;person 1 1;lawyer 1 2;person 1 4;"
                + "quarrel 0 1 9 2;quarrel 0 2 9 1;quarrel 1 3 9 9;";
            Edge.refused(1, () -> of(text), "no quarrel", x -> x.settle(1, 2));
            Edge.refused(1, () -> of(text), "with oneself", x -> x.settle(1, 1));
            Edge.refused(1, () -> of(text), "a third's word", x -> x.settle(0, 1));
            Edge.refused(1, () -> of(text), "nobody's word", x -> x.settle(3, 1));
            Edge.refused(1, () -> dead(text, 2), "the dead's quarrel", x -> x.settle(0, 2));
            Edge.refused(1, () -> {
                WivesQuarrels x = of(text);
                x.settle(0, 2);
                return x;
            }, "settled already", x -> x.settle(0, 2));
        });
    }

    private static void pick() {
        Edge.promise(12, "PICKED: how many QUARRELS there are then.", () -> {
            WivesQuarrels x = of(EIGHT);
            int many = 0;
            for (int a = 0; a < 8; a++) {
                for (int b = 0; b < a; b++) {
                    many++;
                    is("picked", x.pick(a, b, many, many % 10), many);
                    is("heat", x.quarrel(b, a, 0), many);
                    is("word", x.quarrel(b, a, 1), many % 10);
                }
            }
            is("acts", x.count(8), 28);
            WivesQuarrels y = of(THREE + "wed 0 1;");
            is("wed, but not to each other", y.pick(0, 2, 99, 9), 1);
            is("most heat", y.quarrel(0, 2, 0), 99);
            is("'cut'", y.quarrel(0, 2, 2), 0);
            y.die(0);
            is("a widow", y.pick(1, 2, 1, 0), NONE);
        });
    }

    private static void pickRefused() {
        Supplier<WivesQuarrels> town = () -> dead("person 1 1;".repeat(5) + "wed 1 2;quarrel 2 3 9 9;", 0);
        Edge.promise(12, "NONE (STATUS 1): both are one, one is dead, they have one, are WED to each other", () -> {
            Edge.refused(1, town, "both are one", x -> x.pick(1, 1, 5, 5));
            Edge.refused(1, town, "both are one dead", x -> x.pick(0, 0, 5, 5));
            Edge.refused(1, town, "the first is dead", x -> x.pick(0, 1, 5, 5));
            Edge.refused(1, town, "the other one is dead", x -> x.pick(1, 0, 5, 5));
            Edge.refused(1, town, "they have one", x -> x.pick(2, 3, 5, 5));
            Edge.refused(1, town, "they have one", x -> x.pick(3, 2, 9, 9));
            Edge.refused(1, town, "wed to each other", x -> x.pick(1, 2, 5, 5));
            Edge.refused(1, town, "wed to each other", x -> x.pick(2, 1, 5, 5));
        });
        Edge.promise(12, "HEAT isn't 1 to 99, the WORD 0 to 9.", () -> {
            for (int heat : new int[] {0, -1, 100, LEAST, MOST}) {
                Edge.refused(1, town, "HEAT " + heat, x -> x.pick(3, 4, heat, 5));
            }
            for (int word : new int[] {-1, 10, LEAST, MOST}) {
                Edge.refused(1, town, "WORD " + word, x -> x.pick(3, 4, 5, word));
            }
            is("least", town.get().pick(3, 4, 1, 0), 2);
            is("most", town.get().pick(3, 4, 99, 9), 2);
        });
    }

    private static void undo() {
        Edge.promise(13, "The last ACT is UNDONE: how many are left.", () -> {
            WivesQuarrels x = of("person 5 1;person 4 2;person 3 4;wed 0 1;quarrel 1 2 30 2;");
            int[][] states = new int[6][];
            states[0] = Edge.state(x);
            x.weeks(20);
            states[1] = Edge.state(x);
            x.settle(1, 2);
            states[2] = Edge.state(x);
            x.pick(0, 2, 99, 9);
            states[3] = Edge.state(x);
            x.die(0);
            states[4] = Edge.state(x);
            x.wed(1, 2);
            states[5] = Edge.state(x);
            for (int left = 4; left >= 0; left--) {
                is("left", x.undo(), left);
                Edge.same("undo", x, states[left]);
            }
        });
        Edge.promise(13, "NONE: there is none.", () -> {
            is("a new object", new WivesQuarrels().undo(), NONE);
            WivesQuarrels x = of(TWO);
            x.weeks(0);
            x.die(0);
            is("the act", x.undo(), 0);
            int[] before = Edge.state(x);
            is("none", x.undo(), NONE);
            is("none again", x.undo(), NONE);
            Edge.same("no undo", x, before);
            for (int i = 0; i < 41; i++) {
                x.weeks(1);
            }
            for (int left = 39; left >= 0; left--) {
                is("left", x.undo(), left);
            }
            is("the 41st isn't kept", x.undo(), NONE);
            is("the week", x.count(2), 1);
        });
    }

    private static void then() {
        Edge.promise(14, "THEN: HEAT (what 0), 'cut' (1; 0: over)", () -> {
            WivesQuarrels x = of(THREE + "quarrel 0 1 60 0;quarrel 1 2 59 0;cuts 1;");
            is("heat now", x.then(1, 0, 0, 0), 60);
            is("cut now", x.then(0, 1, 0, 1), 0);
            is("heat at 59", x.then(0, 1, 59, 0), 1);
            is("cut at 59", x.then(0, 1, 59, 1), 59);
            is("heat when over", x.then(0, 1, 60, 0), 0);
            is("cut when over", x.then(0, 1, 60, 1), 0);
            is("heat long over", x.then(1, 2, 60, 0), 0);
            WivesQuarrels y = of(TWO + "quarrel 0 1 90 0;heats 1;");
            y.weeks(20);
            y.weeks(20);
            is("most heat", y.then(0, 1, 60, 0), 99);
            is("cut", y.then(0, 1, 59, 1), 99);
            is("most cut", y.then(0, 1, 60, 1), 99);
        });
        Edge.promise(14, "NONE: there is none now.", () -> {
            WivesQuarrels x = of(THREE + "quarrel 0 1 1 0;");
            for (int what = 0; what <= 1; what++) {
                is("none", x.then(0, 2, 0, what), NONE);
                is("with oneself", x.then(0, 0, 60, what), NONE);
            }
            x.weeks(1);
            is("over now", x.then(0, 1, 0, 0), NONE);
        });
        Edge.promise(14, "NoSuchElementException: also another what.", () -> {
            noSuchWhat(() -> of(TWO + "quarrel 0 1 1 0;"), 1, (x, what) -> x.then(0, 1, 0, what));
            noSuchWhat(() -> of(TWO), 1, (x, what) -> x.then(0, 1, 0, what));
        });
        Edge.promise(14, "IllegalArgumentException (behind that): not 0 to 60.", () -> {
            noSuchWeeks(() -> of(TWO + "quarrel 0 1 1 0;"), (x, weeks) -> x.then(0, 1, weeks, 0));
            noSuchWeeks(() -> of(TWO), (x, weeks) -> x.then(0, 1, weeks, 1));
            WivesQuarrels x = of(TWO);
            Edge.missing(() -> x.then(0, 1, 61, 2), () -> x.then(0, 1, -1, -1), () -> x.then(0, 2, 61, 0),
                () -> x.then(2, 0, -1, 0));
        });
    }

    private static void over() {
        Edge.promise(15, "OVER", () -> {
            is("behind 1", of(TWO + "quarrel 0 1 1 0;").over(0, 1), 1);
            is("behind 60", of(TWO + "quarrel 0 1 60 0;").over(1, 0), 60);
            is("behind 1 by 9", of(TWO + "quarrel 0 1 9 0;heats 0-9;").over(1, 0), 1);
            is("behind 11 by 9", of(TWO + "quarrel 0 1 99 0;heats 0-9;").over(1, 0), 11);
        });
        Edge.promise(15, "NONE: none, there is none now.", () -> {
            is("behind 61", of(TWO + "quarrel 0 1 61 0;").over(0, 1), NONE);
            is("never", of(TWO + "quarrel 0 1 1 0;heats 0;").over(0, 1), NONE);
            WivesQuarrels x = of(THREE + "quarrel 0 1 1 0;");
            is("none now", x.over(0, 2), NONE);
            is("with oneself", x.over(0, 0), NONE);
            x.weeks(1);
            int[] before = Edge.state(x);
            is("over now", x.over(0, 1), NONE);
            Edge.same("over", x, before);
        });
    }

    private static void peace() {
        Edge.promise(16, "PEACE", () -> {
            is("now", of(TWO).peace(), 0);
            is("behind 1", of(TWO + "quarrel 0 1 1 0;").peace(), 1);
            is("behind 60", of(THREE + "quarrel 0 1 60 0;quarrel 0 2 1 0;").peace(), 60);
        });
        Edge.promise(16, "NONE: none.", () -> {
            WivesQuarrels x = of(THREE + "quarrel 0 1 61 0;quarrel 0 2 1 0;");
            int[] before = Edge.state(x);
            is("behind 61", x.peace(), NONE);
            Edge.same("peace", x, before);
            is("never", of(TWO + "quarrel 0 1 1 0;heats 0;").peace(), NONE);
        });
    }

    private static void later() {
        Edge.promise(17, "HOTTEST: 10 by the lesser, and the other one (what 0; NONE)", () -> {
            is("the first pair", of(EIGHT + "quarrel 1 0 1 1;").later(0, 0), 1);
            is("the last pair", of(EIGHT + "quarrel 7 6 1 1;").later(0, 0), 67);
            is("none", of(EIGHT).later(0, 0), NONE);
            is("none then", of(EIGHT + "quarrel 7 6 60 1;").later(60, 0), NONE);
            is("one then", of(EIGHT + "quarrel 7 6 60 1;").later(59, 0), 67);
        });
        Edge.promise(17, "LEFT (1)", () -> {
            is("none", of("").later(60, 1), 0);
            is("all", of(Edge.allAgainstAll("61", "0")).later(60, 1), 28);
            is("none then", of(Edge.allAgainstAll("60", "0")).later(60, 1), 0);
        });
        Edge.promise(17, "BITTER (2; NONE).", () -> {
            is("nobody", of("").later(0, 2), NONE);
            is("one without quarrels", of("person 1 1;").later(60, 2), 0);
            is("the last", of(EIGHT + "quarrel 7 6 50 0;quarrel 7 5 1 0;").later(0, 2), 7);
            WivesQuarrels x = dead(TWO, 0);
            is("not the dead", x.later(0, 2), 1);
            x.die(1);
            is("none lives", x.later(0, 2), NONE);
        });
        Edge.promise(17, "NoSuchElementException: another what.", () ->
            noSuchWhat(() -> of(TWO), 2, (x, what) -> x.later(0, what)));
        Edge.promise(17, "IllegalArgumentException (behind that): not 0 to 60.", () -> {
            noSuchWeeks(() -> of(TWO + "quarrel 0 1 9 9;"), (x, weeks) -> x.later(weeks, 0));
            noSuchWeeks(() -> of(TWO), (x, weeks) -> x.later(weeks, 1));
            noSuchWeeks(() -> new WivesQuarrels(), (x, weeks) -> x.later(weeks, 2));
            WivesQuarrels x = of(TWO);
            Edge.missing(() -> x.later(61, 3), () -> x.later(-1, -1));
        });
    }

    private static void comesInto() {
        Edge.promise(18, "COMES INTO: how many (what 0), HEAT (1)", () -> {
            WivesQuarrels x = of(FOUR + "wed 0 1;quarrel 0 2 99 1;quarrel 1 2 1 1;quarrel 1 3 1 1;quarrel 0 1 9 9;");
            is("how many", x.comesInto(0, 0), 2);
            is("heat", x.comesInto(0, 1), 100);
            is("how many of 1", x.comesInto(1, 0), 2);
            is("heat of 1", x.comesInto(1, 1), 100);
            is("without heir", x.comesInto(2, 0), 0);
            is("without heir", x.comesInto(2, 1), 0);
            WivesQuarrels y = of(TWO + "wed 0 1;");
            is("no quarrel", y.comesInto(0, 0) + y.comesInto(0, 1), 0);
        });
        Edge.promise(18, "NONE: one is dead.", () -> {
            WivesQuarrels x = dead(THREE + "wed 0 1;quarrel 0 2 9 9;", 0);
            int[] before = Edge.state(x);
            is("how many", x.comesInto(0, 0), NONE);
            is("heat", x.comesInto(0, 1), NONE);
            is("the widow", x.comesInto(1, 0), 0);
            Edge.same("comesInto", x, before);
        });
        Edge.promise(18, "NoSuchElementException: also another what.", () -> {
            noSuchWhat(() -> of(TWO), 1, (x, what) -> x.comesInto(0, what));
            noSuchWhat(() -> dead(TWO, 0), 1, (x, what) -> x.comesInto(0, what));
        });
    }

    private static void camps() {
        Edge.promise(19, "CAMPS, as bits", () -> {
            is("nobody", of("").camps(), 0);
            is("all without a quarrel", of(EIGHT).camps(), 255);
            is("one and seven", of(EIGHT + star()).camps(), 1);
            WivesQuarrels x = dead(EIGHT, 0);
            is("who lives", x.camps(), 254);
            WivesQuarrels y = dead(TWO, 0);
            y.die(1);
            is("none lives", y.camps(), 0);
        });
        Edge.promise(19, "NONE: they can't.", () -> {
            is("a three", of(THREE + "quarrel 0 1 1 1;quarrel 0 2 1 1;quarrel 1 2 1 1;").camps(), NONE);
            is("the last three", of(EIGHT + "quarrel 5 6 1 1;quarrel 5 7 1 1;quarrel 6 7 1 1;").camps(), NONE);
            is("a ring of seven", of(EIGHT + ring(7)).camps(), NONE);
            is("a ring of eight", of(EIGHT + ring(8)).camps(), 85);
            is("all", of(Edge.allAgainstAll("1", "1")).camps(), NONE);
        });
    }

    /** 0 against all others. */
    private static String star() {
        StringBuilder b = new StringBuilder();
        for (int p = 1; p < 8; p++) {
            b.append("quarrel 0 ").append(p).append(" 9 1;");
        }
        return b.toString();
    }

    private static String ring(int many) {
        StringBuilder b = new StringBuilder();
        for (int p = 0; p < many; p++) {
            b.append("quarrel ").append(p).append(' ').append((p + 1) % many).append(" 9 1;");
        }
        return b.toString();
    }

    private static void between() {
        Edge.promise(20, "A GO-BETWEEN (0 to oneself)", () -> {
            WivesQuarrels x = of(Edge.allAgainstAll("9", "1"));
            is("to oneself", x.between(0, 0), 0);
            is("to oneself", x.between(7, 7), 0);
            is("one step", of(TWO).between(0, 1), 1);
            // All against all, but for 0-1, 1-2 .. 6-7: seven steps in a row.
            WivesQuarrels row = of(EIGHT);
            for (int a = 0; a < 8; a++) {
                for (int b = a + 2; b < 8; b++) {
                    row.pick(a, b, 9, 1);
                }
            }
            is("seven steps", row.between(0, 7), 7);
            is("seven steps back", row.between(7, 0), 7);
        });
        Edge.promise(20, "NONE: none, one is dead.", () -> {
            is("none", of(TWO + "quarrel 0 1 1 1;").between(0, 1), NONE);
            WivesQuarrels x = dead(THREE, 1);
            is("from the dead", x.between(1, 0), NONE);
            is("to the dead", x.between(0, 1), NONE);
            is("the dead to oneself", x.between(1, 1), NONE);
            is("past the dead", x.between(0, 2), 1);
        });
    }

    private static void drawers() {
        Edge.promise(21, "DRAWERS, as bits", () -> {
            is("nobody", of("").drawers(), 0);
            is("no quarrel", of(TWO).drawers(), 0);
            is("the last one's", of("person 1 0;".repeat(7) + "person 1 512;quarrel 0 1 1 9;").drawers(), 128);
            StringBuilder b = new StringBuilder();
            for (int p = 0; p < 8; p++) {
                b.append("person 1 ").append(1 << p).append(";");
            }
            for (int p = 0; p < 8; p++) {
                b.append("quarrel ").append(p).append(' ').append((p + 1) % 8).append(" 1 ").append(p).append(";");
            }
            is("all", of(b.toString()).drawers(), 255);
        });
        Edge.promise(21, "NONE: none.", () -> {
            is("nobody's word", of("person 1 511;person 1 511;quarrel 0 1 1 9;").drawers(), NONE);
            WivesQuarrels x = of("person 1 0;person 1 0;person 1 2;quarrel 0 1 1 1;");
            is("one's word", x.drawers(), 4);
            x.die(2);
            is("the dead's word", x.drawers(), NONE);
            x.die(0);
            is("none is needed", x.drawers(), 0);
        });
    }

    private static void deaths() {
        Edge.promise(22, "DEATHS, as bits.", () -> {
            is("nobody", of("").deaths(), 0);
            is("peace", of(EIGHT).deaths(), 0);
            is("one", of(EIGHT + star()).deaths(), 1);
            is("all but the last", of(Edge.allAgainstAll("1", "1")).deaths(), 127);
            WivesQuarrels x = dead(Edge.allAgainstAll("1", "1"), 0);
            int[] before = Edge.state(x);
            is("who lives", x.deaths(), 126);
            Edge.same("deaths", x, before);
        });
    }

    private static void friends() {
        Edge.promise(23, "FRIENDS, as bits (0: one is dead).", () -> {
            WivesQuarrels x = of(EIGHT + star());
            is("none", x.friends(0), 0);
            is("all others", x.friends(1), 252);
            is("all others", x.friends(7), 126);
            x.die(1);
            is("of the dead", x.friends(1), 0);
            is("without the dead", x.friends(7), 124);
            x.die(0);
            is("without a foe", x.friends(7), 0);
        });
    }

    private static void spared() {
        Edge.promise(24, "SPARED", () -> {
            is("none", of(TWO).spared(0), 0);
            is("all", of(EIGHT + star()).spared(0), 7);
            is("one", of(EIGHT + star()).spared(7), 1);
            is("none with an heir", of(EIGHT + "wed 0 1;quarrel 0 2 9 9;").spared(0), 0);
        });
        Edge.promise(24, "NONE: one is dead.", () -> {
            WivesQuarrels x = dead(TWO + "quarrel 0 1 9 9;", 0);
            int[] before = Edge.state(x);
            is("the dead", x.spared(0), NONE);
            is("who lives", x.spared(1), 0);
            Edge.same("spared", x, before);
        });
    }

    private static void match() {
        Edge.promise(25, "A MATCH", () -> {
            is("the first", of(EIGHT).match(7), 0);
            is("the next", of(EIGHT).match(0), 1);
            is("the last", of(EIGHT + "wed 1 2;wed 3 4;wed 5 6;").match(0), 7);
            is("one with most heat", of(Edge.allAgainstAll("99", "0")).match(3), 0);
        });
        Edge.promise(25, "NONE: none, one is dead, WED.", () -> {
            is("one alone", of("person 1 1;").match(0), NONE);
            WivesQuarrels x = of(FOUR + "wed 1 2;");
            is("wed", x.match(1), NONE);
            is("wed", x.match(2), NONE);
            x.die(3);
            is("the dead", x.match(3), NONE);
            is("all others are wed or dead", x.match(0), NONE);
            x.die(1);
            is("a widower", x.match(0), 2);
        });
    }

    private static void ready() {
        Edge.promise(26, "READY.", () -> {
            is("nobody", of("").ready(), 0);
            is("none", of(Edge.allAgainstAll("1", "1")).ready(), 0);
            is("all", of(Edge.allAgainstAll("1", "0")).ready(), 28);
        });
    }

    private static void mildest() {
        Edge.promise(27, "MILDEST", () -> {
            is("one of 9", of("person 9 0;").mildest(), 0);
            is("the last of 0", of("person 9 0;".repeat(7) + "person 0 0;").mildest(), 7);
            is("the first of like ones", of("person 9 0;".repeat(8)).mildest(), 0);
        });
        Edge.promise(27, "NONE: none lives.", () -> {
            is("nobody", of("").mildest(), NONE);
            WivesQuarrels x = dead("person 0 0;person 9 0;", 0);
            is("the last", x.mildest(), 1);
            x.die(1);
            is("all are dead", x.mildest(), NONE);
        });
    }

    private static void coldest() {
        Edge.promise(28, "COLDEST", () -> {
            is("without quarrels", of(EIGHT).coldest(60), 0);
            is("the last", of(EIGHT + "quarrel 7 6 9 9;quarrel 7 5 9 9;heats 0;cuts 1;").coldest(60), 7);
            is("not yet", of(EIGHT + "quarrel 7 6 9 9;heats 0;cuts 1;").coldest(0), 0);
        });
        Edge.promise(28, "NONE: none lives.", () -> {
            is("nobody", of("").coldest(0), NONE);
            WivesQuarrels x = dead(TWO, 0);
            is("one", x.coldest(0), 1);
            x.die(1);
            is("all are dead", x.coldest(60), NONE);
        });
        Edge.promise(28, "IllegalArgumentException: not 0 to 60.", () -> {
            noSuchWeeks(() -> of(TWO + "quarrel 0 1 9 9;"), WivesQuarrels::coldest);
            noSuchWeeks(() -> new WivesQuarrels(), WivesQuarrels::coldest);
        });
    }

    private static void triples() {
        Edge.promise(29, "TRIPLES.", () -> {
            is("nobody", of("").triples(), 0);
            is("none", of(EIGHT + star()).triples(), 0);
            is("the last one", of(EIGHT + "quarrel 5 6 1 1;quarrel 5 7 1 1;quarrel 6 7 1 1;").triples(), 1);
            is("all", of(Edge.allAgainstAll("1", "1")).triples(), 56);
            is("without the dead", dead(Edge.allAgainstAll("1", "1"), 4).triples(), 35);
        });
    }

    private static void alone() {
        Edge.promise(30, "ALONE, as bits.", () -> {
            is("nobody", of("").alone(), 0);
            is("one", of(EIGHT + star()).alone(), 1);
            is("all", of(Edge.allAgainstAll("1", "1")).alone(), 255);
            WivesQuarrels x = dead(TWO, 1);
            is("the last", x.alone(), 1);
            x.die(0);
            is("none lives", x.alone(), 0);
        });
    }

    private static void foes() {
        Edge.promise(31, "With whom both have QUARRELS, as bits.", () -> {
            WivesQuarrels x = of(Edge.allAgainstAll("1", "1"));
            is("all but both", x.foes(0, 1), 252);
            is("all but both", x.foes(6, 7), 63);
            is("one alone", x.foes(7, 7), 127);
            x.die(0);
            is("the dead", x.foes(0, 1), 0);
            is("without the dead", x.foes(6, 7), 62);
            is("none", of(EIGHT + star()).foes(0, 1), 0);
            is("one", of(EIGHT + star()).foes(7, 1), 1);
        });
    }

    private static void word() {
        Edge.promise(32, "Who lives, and has a WORD in the DRAWER, as bits.", () -> {
            is("nobody", of("").word(9), 0);
            WivesQuarrels x = of("person 1 1;person 1 0;" + "person 1 512;".repeat(6));
            is("the first", x.word(0), 1);
            is("the last", x.word(9), 252);
            is("none", x.word(5), 0);
            x.die(7);
            is("not the dead", x.word(9), 124);
            is("all", of("person 1 1023;".repeat(8)).word(4), 255);
        });
        Edge.promise(32, "NoSuchElementException: no such WORD.", () ->
            noSuchWhat(() -> of(TWO), 9, WivesQuarrels::word));
    }

    private static void single() {
        Edge.promise(33, "Who lives, and isn't WED, as bits.", () -> {
            is("nobody", of("").single(), 0);
            is("all", of(EIGHT).single(), 255);
            WivesQuarrels x = of(EIGHT + "wed 0 7;wed 1 6;wed 2 5;wed 3 4;");
            is("none", x.single(), 0);
            x.die(0);
            is("a widower", x.single(), 128);
            x.die(7);
            is("none lives so", x.single(), 0);
        });
    }

    private static void cuts() {
        Edge.promise(34, "'cut' of all QUARRELS together.", () -> {
            WivesQuarrels x = of(Edge.allAgainstAll("1", "1") + "heats 0;cuts 1;");
            is("none", x.cuts(), 0);
            for (int i = 1; i <= 6; i++) {
                x.weeks(20);
                is("so many", x.cuts(), 28 * Math.min(20 * i, 99));
            }
            x.die(0);
            is("of those that are left", x.cuts(), 21 * 99);
        });
    }

    private static void see() {
        Supplier<WivesQuarrels> two = () -> of(TWO + "quarrel 0 1 30 9;");
        Edge.promise(35, "SEEN: how much is.", () -> {
            WivesQuarrels x = dead(THREE, 2);
            is("least", x.see(0, 1, 0, 0), 1);
            is("most", x.see(1, 0, 20, 99), 2);
            is("of the dead", x.see(2, 0, 0, 1), 3);
            for (int i = 4; i <= 8; i++) {
                is("seen", x.see(0, 1, 0, 0), i);
            }
            is("no act", x.count(8), 1);
        });
        Edge.promise(35, "NONE (STATUS 2): there are 8, both are one, not 0 to 20, not 0 to 99.", () -> {
            Edge.refused(2, two, "both are one", x -> x.see(1, 1, 0, 0));
            for (int weeks : new int[] {-1, 21, LEAST, MOST}) {
                Edge.refused(2, two, "weeks " + weeks, x -> x.see(0, 1, weeks, 0));
            }
            for (int heat : new int[] {-1, 100, LEAST, MOST}) {
                Edge.refused(2, two, "heat " + heat, x -> x.see(0, 1, 0, heat));
            }
            Edge.refused(2, () -> {
                WivesQuarrels x = two.get();
                for (int i = 0; i < 8; i++) {
                    x.see(0, 1, 0, 30);
                }
                return x;
            }, "the ninth", x -> x.see(0, 1, 0, 29));
        });
        Edge.promise(35, "NoSuchElementException (ahead): no such PERSON.", () -> {
            WivesQuarrels x = two.get();
            for (int i = 0; i < 8; i++) {
                x.see(0, 1, 0, 30);
            }
            int[] before = Edge.state(x);
            Edge.missing(() -> x.see(2, 0, 0, 0), () -> x.see(0, -1, 21, 0), () -> x.see(2, 2, 0, 100),
                () -> x.see(LEAST, MOST, -1, -1));
            Edge.same("no such person", x, before);
        });
    }

    private static void nerved() {
        Edge.promise(36, "NERVED: how many (what 0), the first (1; NONE: none), whether without (2).", () -> {
            is("all", of("person 0 0;".repeat(8)).nerved(0), 72);
            is("the first of all", of("person 0 0;".repeat(8)).nerved(1), 1);
            WivesQuarrels x = of(EIGHT + "quarrel 6 7 50 0;heats nerve-9;");
            is("without", x.nerved(2), 1);
            x.see(6, 7, 1, 51);
            is("one of both has 9", x.nerved(0), 2);
            is("the first", x.nerved(1), 69);
            is("not without", x.nerved(2), 0);
            x.see(6, 7, 1, 52);
            is("none", x.nerved(0), 0);
            is("no first", x.nerved(1), NONE);
            is("not without", x.nerved(2), 0);
            x.forget();
            for (int p = 0; p < 7; p++) {
                x.die(p);
            }
            is("of who lives", x.nerved(0), 9);
            is("the last one's", x.nerved(1), 70);
        });
        Edge.promise(36, "NoSuchElementException: another what.", () ->
            noSuchWhat(() -> of(TWO + "quarrel 0 1 30 9;"), 2, WivesQuarrels::nerved));
    }

    private static void look() {
        Edge.promise(37, "LOOK NEXT: 10 by the lesser, and the other one (what 0; NONE), how many (1; 0: none).",
            () -> {
            WivesQuarrels first = of(EIGHT + "quarrel 1 0 50 0;");
            is("the first pair", first.look(0), 1);
            is("how many", first.look(1), 2);
            WivesQuarrels last = of(EIGHT + "quarrel 7 6 50 0;heats nerve;");
            is("the last pair", last.look(0), 67);
            // Another NERVE of one of both makes 1 to 10 but 2 (9 and 10 are kept to 9), of the others 2.
            is("how many", last.look(1), 9);
            last.see(6, 7, 0, 49);
            is("none by what is seen", last.look(0), NONE);
            is("none by what is seen", last.look(1), 0);
            is("no quarrel", of(EIGHT).look(0), NONE);
            is("no quarrel", of(EIGHT).look(1), 0);
        });
        Edge.promise(37, "NoSuchElementException: another what.", () ->
            noSuchWhat(() -> of(TWO + "quarrel 0 1 30 9;"), 1, WivesQuarrels::look));
    }

    private static void forget() {
        Edge.promise(38, "All that is SEEN is forgotten.", () -> {
            WivesQuarrels x = of(TWO + "quarrel 0 1 30 9;");
            int[] before = Edge.state(x);
            x.forget();
            Edge.same("none seen", x, before);
            for (int i = 0; i < 8; i++) {
                x.see(0, 1, i, 99);
            }
            x.forget();
            Edge.same("eight forgotten", x, before);
            is("all seen is so", x.nerved(2), 1);
            is("seen anew", x.see(0, 1, 0, 30), 1);
            is("that alone", x.nerved(2), 1);
        });
    }

    private static void game() {
        Edge.promise(39, "A GAME: how many couples rest (what 0), the first (1; NONE: none)", () -> {
            WivesQuarrels x = of("person 0 0;person 9 0;quarrel 0 1 99 0;heats 0;");
            is("HEAT 99 is 11: one of both gives in", x.game(0, 1, 0), 2);
            is("the other one first", x.game(0, 1, 1), 1);
            WivesQuarrels y = of("person 0 0;person 0 0;quarrel 0 1 1 0;");
            is("no loss: all but both", y.game(0, 1, 0), 3);
            is("nobody first", y.game(0, 1, 1), 0);
            WivesQuarrels z = of("person 9 0;person 9 0;quarrel 0 1 1 0;");
            is("just nobody", z.game(0, 1, 0), 1);
            is("nobody", z.game(0, 1, 1), 0);
        });
        Edge.promise(39, "NONE for both without a QUARREL.", () -> {
            WivesQuarrels x = dead(THREE + "quarrel 0 2 9 9;", 2);
            is("how many", x.game(0, 1, 0), NONE);
            is("the first", x.game(0, 1, 1), NONE);
            is("with the dead", x.game(0, 2, 0), NONE);
            is("with the dead", x.game(2, 0, 1), NONE);
        });
        Edge.promise(39, "NoSuchElementException: also another what.", () -> {
            noSuchWhat(() -> of(TWO + "quarrel 0 1 30 9;"), 1, (x, what) -> x.game(0, 1, what));
            noSuchWhat(() -> of(TWO), 1, (x, what) -> x.game(0, 1, what));
        });
        Edge.promise(39, "IllegalArgumentException (behind that): both are one.", () -> {
            WivesQuarrels x = of(TWO + "quarrel 0 1 30 9;");
            int[] before = Edge.state(x);
            Edge.illegal(() -> x.game(0, 0, 0), () -> x.game(1, 1, 1));
            Edge.missing(() -> x.game(0, 0, 2), () -> x.game(1, 1, -1), () -> x.game(2, 2, 0), () -> x.game(-1, -1, 2));
            Edge.same("both are one", x, before);
        });
    }

    private static void years() {
        Edge.promise(40, "YEARS: who lives (what 0), HEAT (1), how many (2).", () -> {
            WivesQuarrels x = of(Edge.allAgainstAll("99", "0") + "heats 0;");
            int[] before = Edge.state(x);
            for (int seed : new int[] {0, 1, -1, LEAST, MOST}) {
                is("who lives", x.years(seed, 0, 0), 255);
                is("heat", x.years(seed, 0, 1), 2772);
                is("how many", x.years(seed, 0, 2), 28);
                x.years(seed, 60, 0);
            }
            Edge.same("years", x, before);
        });
        Edge.promise(40, "NoSuchElementException: another what.", () ->
            noSuchWhat(() -> of(TWO), 2, (x, what) -> x.years(1, 1, what)));
        Edge.promise(40, "IllegalArgumentException (behind that): n.", () -> {
            noSuchWeeks(() -> of(TWO), (x, n) -> x.years(1, n, 0));
            noSuchWeeks(() -> new WivesQuarrels(), (x, n) -> x.years(-1, n, 2));
            WivesQuarrels x = of(TWO);
            Edge.missing(() -> x.years(1, 61, 3), () -> x.years(1, -1, -1));
        });
    }

    private static void image() {
        Edge.promise(41, "AN IMAGE is kept, in place of another one.", () -> {
            WivesQuarrels x = of(TWO + "quarrel 0 1 30 9;");
            int[] before = Edge.state(x);
            x.image();
            Edge.same("image", x, before);
            x.weeks(5);
            int[] then = Edge.state(x);
            x.image();
            x.weeks(5);
            is("restore", x.restore(), true);
            Edge.same("the later one", x, then);
            x.undo();
            x.image();
            x.die(0);
            x.restore();
            Edge.same("the latest one", x, before);
            WivesQuarrels nobody = new WivesQuarrels();
            nobody.image();
            nobody.weeks(7);
            is("of nobody", nobody.restore(), true);
            is("the week", nobody.count(2), 0);
        });
    }

    /** Acts that are all seen in the answers: each leaves another heat and another week. */
    private static void sixtyActs(WivesQuarrels x, int weeks) {
        for (int i = 0; i < 20; i++) {
            x.pick(0, 1, 99 - i, i % 10);
            x.weeks(weeks);
            x.settle(0, 1);
        }
    }

    private static void restore() {
        Edge.promise(42, "It is as the IMAGE again: true.", () -> {
            WivesQuarrels x = of("person 5 1;person 4 2;person 3 4;wed 0 1;quarrel 1 2 30 2;");
            for (int i = 0; i < 40; i++) {
                x.weeks(1);
            }
            x.undo();
            x.pick(0, 2, 9, 9);
            x.see(0, 1, 1, 1);
            x.see(0, 0, 1, 1);
            x.weeks(0);
            x.image();
            int[] kept = Edge.state(x);
            x.die(0);
            x.forget();
            x.weeks(21);
            x.restore();
            Edge.same("restore", x, kept);
            is("again", x.restore(), true);
            Edge.same("again", x, kept);
            for (int left = 39; left >= 0; left--) {
                is("undo", x.undo(), left);
            }
            is("undone all", x.count(2), 0);
            is("and again", x.restore(), true);
            Edge.same("and again", x, kept);
            WivesQuarrels acts = of("person 5 1023;person 4 2;");
            sixtyActs(acts, 1);
            int[][] states = new int[4][];
            acts.image();
            for (int i = 0; i < 40; i++) {
                states[i / 10] = i % 10 == 0 ? Edge.state(acts) : states[i / 10];
                acts.undo();
            }
            sixtyActs(acts, 2);
            is("restore", acts.restore(), true);
            for (int i = 0; i < 40; i++) {
                if (i % 10 == 0) {
                    Edge.same("undone " + i, acts, states[i / 10]);
                }
                is("left", acts.undo(), 39 - i);
            }
        });
        Edge.promise(42, "False: there is none.", () -> {
            WivesQuarrels x = of(TWO);
            x.weeks(1);
            int[] before = Edge.state(x);
            is("none yet", x.restore(), false);
            Edge.same("no restore", x, before);
            x.image();
            Check.town(x, "#");
            is("a fault leaves it", x.restore(), true);
            x.town(0);
            is("a town doesn't", x.restore(), false);
            x.image();
            is("an image anew", x.restore(), true);
        });
    }
}
