import java.util.Arrays;
import java.util.NoSuchElementException;

/** People, whom they are wed to, and the quarrels that their widowers come into. */
public final class WivesQuarrels {
    public static final int NONE = -1;

    private static final int MOST_BYTES = 700;
    private static final int FED_BYTES = 20;
    private static final int MOST_PEOPLE = 8;
    private static final int EVERYBODY = 255;
    private static final int MOST_NERVE = 9;
    private static final int MOST_DRAWER = 1023;
    private static final int MOST_WORD = 9;
    private static final int MOST_HEAT = 99;
    private static final int MOST_CUT = 99;
    private static final int MOST_CHANGE = 9;
    private static final int MOST_WEEK = 999;
    private static final int MOST_WEEKS_AT_ONCE = 20;
    private static final int MOST_WEEKS_AHEAD = 60;
    private static final int MOST_ACTS = 40;
    private static final int MOST_SEEN = 8;
    private static final int MOST_WEEKS_SEEN = 20;
    private static final int SOON = 5;

    private static final int PAIRS = 28;
    private static final int[] LESSER = {
        0, 0, 0, 0, 0, 0, 0, 1, 1, 1, 1, 1, 1, 2, 2, 2, 2, 2, 3, 3, 3, 3, 4, 4, 4, 5, 5, 6};
    private static final int[] GREATER = {
        1, 2, 3, 4, 5, 6, 7, 2, 3, 4, 5, 6, 7, 3, 4, 5, 6, 7, 4, 5, 6, 7, 5, 6, 7, 6, 7, 7};

    private static final int BAD_TEXT = 0;
    private static final int BAD_ACT = 1;
    private static final int BAD_SIGHT = 2;

    private final byte[] tape = new byte[MOST_BYTES];
    private final Books books = new Books();
    private final Books kept = new Books();
    private final Rules rules = new Rules();
    private final Reader reader = new Reader();
    private final Circle circle = new Circle();
    private final Guesses guesses = new Guesses();
    private final Fate fate = new Fate();
    private final Folk trial = new Folk();
    private int tapeLength = 0;
    private int faultPlace = NONE;
    private boolean hasImage = false;

    public WivesQuarrels() {
    }

    public int feed(int a, int b, int c, int d, int e) {
        if (tapeLength + FED_BYTES > MOST_BYTES) {
            return NONE;
        }
        write(a);
        write(b);
        write(c);
        write(d);
        write(e);
        return tapeLength;
    }

    private void write(int number) {
        for (int shift = 24; shift >= 0; shift -= 8) {
            if (tapeLength < MOST_BYTES) {
                tape[tapeLength] = (byte) (number >> shift);
                tapeLength++;
            }
        }
    }

    public int town(int n) throws IllegalArgumentException {
        if (n < 0 || n > tapeLength) {
            throw new IllegalArgumentException("the tape has not so many bytes");
        }
        tapeLength = 0;
        reader.readTown(tape, n);
        faultPlace = reader.place();
        if (faultPlace != NONE) {
            books.refuse(BAD_TEXT);
            return reader.found();
        }
        books.beginAnew(reader.folk());
        rules.copyFrom(reader.rules());
        hasImage = false;
        return 0;
    }

    public int fault() {
        return faultPlace;
    }

    public int count(int what) throws NoSuchElementException {
        Folk folk = books.folk();
        switch (what) {
            case 0:
                return folk.people();
            case 1:
                return folk.living();
            case 2:
                return folk.week();
            case 3:
                return folk.quarrels();
            case 4:
                return folk.allHeat();
            case 5:
                return folk.neededWords();
            case 6:
                circle.gather(folk);
                return circle.fewestTables();
            case 7:
                circle.gather(folk);
                return circle.mostAsked();
            case 8:
                return books.acts();
            case 9:
                return books.sights();
            case 10:
                return tapeLength;
            case 11:
            case 12:
            case 13:
                return books.refusals(what - 11);
            default:
                throw new NoSuchElementException("no such what");
        }
    }

    public int person(int person, int what) throws NoSuchElementException {
        mustBePerson(person);
        Folk folk = books.folk();
        switch (what) {
            case 0:
                return folk.nerve(person);
            case 1:
                return folk.drawer(person);
            case 2:
                return folk.spouse(person);
            case 3:
                return folk.lives(person) ? 1 : 0;
            case 4:
                return folk.isLawyer(person) ? 1 : 0;
            case 5:
                return folk.ties(person);
            case 6:
                return folk.heatAround(person);
            default:
                throw new NoSuchElementException("no such what");
        }
    }

    public int quarrel(int person, int other, int what) throws NoSuchElementException {
        mustBePeople(person, other);
        mustBeWhat(what, 4);
        Folk folk = books.folk();
        int pair = pairOf(person, other);
        if (!folk.hasQuarrel(pair)) {
            return NONE;
        }
        switch (what) {
            case 0:
                return folk.heat(pair);
            case 1:
                return folk.reason(pair);
            case 2:
                return folk.cut(pair);
            case 3:
                return folk.canSettle(pair) ? 1 : 0;
            default:
                return rules.wouldCut(folk, pair) ? 1 : 0;
        }
    }

    public int weeks(int many) {
        Folk folk = books.folk();
        if (many < 1 || many > MOST_WEEKS_AT_ONCE || folk.week() + many > MOST_WEEK) {
            return books.refuse(BAD_ACT);
        }
        books.keepAct();
        rules.letPass(folk, many);
        return folk.week();
    }

    public int die(int person) throws NoSuchElementException {
        mustBePerson(person);
        Folk folk = books.folk();
        if (!folk.lives(person)) {
            return books.refuse(BAD_ACT);
        }
        books.keepAct();
        folk.bury(person);
        return folk.quarrels();
    }

    public boolean wed(int person, int other) throws NoSuchElementException {
        mustBePeople(person, other);
        Folk folk = books.folk();
        if (!folk.canMarry(person, other)) {
            books.refuse(BAD_ACT);
            return false;
        }
        books.keepAct();
        folk.marry(person, other);
        return true;
    }

    public int settle(int person, int other) throws NoSuchElementException {
        mustBePeople(person, other);
        Folk folk = books.folk();
        int pair = pairOf(person, other);
        if (!folk.canSettle(pair)) {
            return books.refuse(BAD_ACT);
        }
        books.keepAct();
        int reason = folk.reason(pair);
        folk.end(pair);
        return reason;
    }

    public int pick(int person, int other, int heat, int word) throws NoSuchElementException {
        mustBePeople(person, other);
        Folk folk = books.folk();
        boolean told = heat >= 1 && heat <= MOST_HEAT && word >= 0 && word <= MOST_WORD;
        if (!told || !folk.canQuarrel(person, other)) {
            return books.refuse(BAD_ACT);
        }
        books.keepAct();
        folk.begin(pairOf(person, other), heat, word);
        return folk.quarrels();
    }

    public int undo() {
        return books.takeBackAct();
    }

    public int then(int person, int other, int weeks, int what)
            throws NoSuchElementException, IllegalArgumentException {
        mustBePeople(person, other);
        mustBeWhat(what, 1);
        mustBeWeeksAhead(weeks);
        int pair = pairOf(person, other);
        if (!books.folk().hasQuarrel(pair)) {
            return NONE;
        }
        Folk future = behind(weeks);
        return what == 0 ? future.heat(pair) : future.cut(pair);
    }

    public int over(int person, int other) throws NoSuchElementException {
        mustBePeople(person, other);
        int pair = pairOf(person, other);
        if (!books.folk().hasQuarrel(pair)) {
            return NONE;
        }
        trial.copyFrom(books.folk());
        for (int week = 1; week <= MOST_WEEKS_AHEAD; week++) {
            rules.letPass(trial, 1);
            if (!trial.hasQuarrel(pair)) {
                return week;
            }
        }
        return NONE;
    }

    public int peace() {
        trial.copyFrom(books.folk());
        for (int week = 0; week <= MOST_WEEKS_AHEAD; week++) {
            if (trial.quarrels() == 0) {
                return week;
            }
            rules.letPass(trial, 1);
        }
        return NONE;
    }

    public int later(int weeks, int what) throws NoSuchElementException, IllegalArgumentException {
        mustBeWhat(what, 2);
        mustBeWeeksAhead(weeks);
        Folk future = behind(weeks);
        if (what == 0) {
            return nameOf(future.hottest());
        }
        return what == 1 ? future.quarrels() : future.mostBitter();
    }

    public int comesInto(int person, int what) throws NoSuchElementException {
        mustBePerson(person);
        mustBeWhat(what, 1);
        Folk folk = books.folk();
        if (!folk.lives(person)) {
            return NONE;
        }
        int heir = folk.spouse(person);
        if (heir == NONE) {
            return 0;
        }
        trial.copyFrom(folk);
        trial.bury(person);
        return what == 0 ? Integer.bitCount(trial.ties(heir)) : trial.heatAround(heir);
    }

    public int camps() {
        circle.gather(books.folk());
        return circle.oneCamp();
    }

    public int between(int person, int other) throws NoSuchElementException {
        mustBePeople(person, other);
        circle.gather(books.folk());
        return circle.steps(person, other);
    }

    public int drawers() {
        return books.folk().fewestDrawers();
    }

    public int deaths() {
        Folk folk = books.folk();
        // All of them would do; rising, so that of as few the least as bits is the first one found.
        int fewest = folk.living();
        for (int group = 0; group <= EVERYBODY; group++) {
            boolean fewer = Integer.bitCount(group) < Integer.bitCount(fewest);
            if (fewer && (group & ~folk.living()) == 0 && bringsPeace(group)) {
                fewest = group;
            }
        }
        return fewest;
    }

    private boolean bringsPeace(int group) {
        trial.copyFrom(books.folk());
        for (int person = 0; person < MOST_PEOPLE; person++) {
            if (isIn(person, group)) {
                trial.bury(person);
            }
        }
        return trial.quarrels() == 0;
    }

    public int friends(int person) throws NoSuchElementException {
        mustBePerson(person);
        circle.gather(books.folk());
        return circle.friendsOf(person);
    }

    public int spared(int person) throws NoSuchElementException {
        mustBePerson(person);
        Folk folk = books.folk();
        if (!folk.lives(person)) {
            return NONE;
        }
        trial.copyFrom(folk);
        trial.bury(person);
        return folk.quarrels() - trial.quarrels();
    }

    public int match(int person) throws NoSuchElementException {
        mustBePerson(person);
        return books.folk().bestMatch(person);
    }

    public int ready() {
        Folk folk = books.folk();
        int many = 0;
        for (int pair = 0; pair < PAIRS; pair++) {
            if (folk.canSettle(pair)) {
                many++;
            }
        }
        return many;
    }

    public int mildest() {
        Folk folk = books.folk();
        int best = NONE;
        int least = MOST_NERVE + 1;
        for (int person = 0; person < MOST_PEOPLE; person++) {
            if (folk.lives(person) && folk.nerve(person) < least) {
                best = person;
                least = folk.nerve(person);
            }
        }
        return best;
    }

    public int coldest(int weeks) throws IllegalArgumentException {
        mustBeWeeksAhead(weeks);
        return behind(weeks).mostCutting();
    }

    public int triples() {
        circle.gather(books.folk());
        return circle.threes();
    }

    public int alone() {
        circle.gather(books.folk());
        return circle.foesOfAll();
    }

    public int foes(int person, int other) throws NoSuchElementException {
        mustBePeople(person, other);
        Folk folk = books.folk();
        return folk.ties(person) & folk.ties(other);
    }

    public int word(int word) throws NoSuchElementException {
        if (word < 0 || word > MOST_WORD) {
            throw new NoSuchElementException("no such word");
        }
        Folk folk = books.folk();
        int holders = 0;
        for (int person = 0; person < MOST_PEOPLE; person++) {
            if (folk.lives(person) && isIn(word, folk.drawer(person))) {
                holders |= 1 << person;
            }
        }
        return holders;
    }

    public int single() {
        Folk folk = books.folk();
        int singles = 0;
        for (int person = 0; person < MOST_PEOPLE; person++) {
            if (folk.lives(person) && folk.spouse(person) == NONE) {
                singles |= 1 << person;
            }
        }
        return singles;
    }

    public int cuts() {
        Folk folk = books.folk();
        int sum = 0;
        for (int pair = 0; pair < PAIRS; pair++) {
            sum += folk.cut(pair);
        }
        return sum;
    }

    public int see(int person, int other, int weeks, int heat) throws NoSuchElementException {
        mustBePeople(person, other);
        boolean told = weeks >= 0 && weeks <= MOST_WEEKS_SEEN && heat >= 0 && heat <= MOST_HEAT;
        if (!told || person == other || books.sights() >= MOST_SEEN) {
            return books.refuse(BAD_SIGHT);
        }
        return books.addSight(pairOf(person, other), weeks, heat);
    }

    public int nerved(int what) throws NoSuchElementException {
        mustBeWhat(what, 2);
        if (what == 2) {
            return guesses.holds(books, rules, NONE) ? 1 : 0;
        }
        guesses.weigh(books, rules);
        return what == 0 ? guesses.howMany() : guesses.first();
    }

    public int look(int what) throws NoSuchElementException {
        mustBeWhat(what, 1);
        guesses.weigh(books, rules);
        guesses.collectHeats(books.folk(), rules);
        int pair = guesses.mostUnlike(books.folk());
        return what == 0 ? nameOf(pair) : guesses.unlike(pair);
    }

    public void forget() {
        books.dropSights();
    }

    public int game(int person, int other, int what) throws NoSuchElementException, IllegalArgumentException {
        mustBePeople(person, other);
        mustBeWhat(what, 1);
        if (person == other) {
            throw new IllegalArgumentException("both are one");
        }
        int pair = pairOf(person, other);
        if (!books.folk().hasQuarrel(pair)) {
            return NONE;
        }
        int loss = behind(SOON).heat(pair) / 9;
        return Game.answer(books.folk().nerve(person), books.folk().nerve(other), loss, what);
    }

    public int years(int seed, int n, int what) throws NoSuchElementException, IllegalArgumentException {
        mustBeWhat(what, 2);
        mustBeWeeksAhead(n);
        trial.copyFrom(books.folk());
        fate.run(trial, rules, seed, n);
        if (what == 0) {
            return trial.living();
        }
        return what == 1 ? trial.allHeat() : trial.quarrels();
    }

    public void image() {
        kept.copyFrom(books);
        hasImage = true;
    }

    public boolean restore() {
        if (hasImage) {
            books.copyFrom(kept);
        }
        return hasImage;
    }

    private void mustBePerson(int person) {
        if (person < 0 || person >= books.folk().people()) {
            throw new NoSuchElementException("no such person");
        }
    }

    private void mustBePeople(int person, int other) {
        mustBePerson(person);
        mustBePerson(other);
    }

    private static void mustBeWhat(int what, int last) {
        if (what < 0 || what > last) {
            throw new NoSuchElementException("no such what");
        }
    }

    private static void mustBeWeeksAhead(int weeks) {
        if (weeks < 0 || weeks > MOST_WEEKS_AHEAD) {
            throw new IllegalArgumentException("not 0 to 60 weeks");
        }
    }

    private Folk behind(int weeks) {
        trial.copyFrom(books.folk());
        rules.letPass(trial, weeks);
        return trial;
    }

    private static int nameOf(int pair) {
        return pair < 0 || pair >= PAIRS ? NONE : 10 * LESSER[pair] + GREATER[pair];
    }

    /** The place of two in the row of pairs (by the lesser, then the other one); NONE if both are one. */
    private static int pairOf(int person, int other) {
        int lesser = Math.min(person, other);
        int greater = Math.max(person, other);
        if (lesser < 0 || greater >= MOST_PEOPLE || lesser == greater) {
            return NONE;
        }
        return lesser * (2 * MOST_PEOPLE - 1 - lesser) / 2 + greater - lesser - 1;
    }

    private static boolean isIn(int number, int bits) {
        return number >= 0 && number < 32 && (bits >> number & 1) != 0;
    }

    /** PEOPLE and QUARRELS as they are at one time, in one row of numbers, so that a copy is one move. */
    private static final class Folk {
        static final int LENGTH = 64;
        private static final int NERVES = 0;
        private static final int DRAWERS = 8;
        // One more than the number, so that a row of zeros is a town of nobody.
        private static final int SPOUSES = 16;
        // HEAT in the lowest 7 bits (0: no QUARREL), the WORD in the next 4, 'cut' above.
        private static final int QUARRELS = 24;
        private static final int LIVING = 52;
        private static final int LAWYERS = 53;
        private static final int WEEK = 54;
        private static final int PEOPLE = 55;
        // With whom each one has QUARRELS, as bits: begin and end keep it.
        private static final int TIES = 56;

        private final int[] row = new int[LENGTH];

        void clear() {
            Arrays.fill(row, 0);
        }

        void copyFrom(Folk other) {
            System.arraycopy(other.row, 0, row, 0, LENGTH);
        }

        void saveTo(int[] rows, int slot) {
            if (slot >= 0 && (slot + 1) * LENGTH <= rows.length) {
                System.arraycopy(row, 0, rows, slot * LENGTH, LENGTH);
            }
        }

        void loadFrom(int[] rows, int slot) {
            if (slot >= 0 && (slot + 1) * LENGTH <= rows.length) {
                System.arraycopy(rows, slot * LENGTH, row, 0, LENGTH);
            }
        }

        private static boolean isPlace(int person) {
            return person >= 0 && person < MOST_PEOPLE;
        }

        int people() {
            return row[PEOPLE];
        }

        int living() {
            return row[LIVING];
        }

        int week() {
            return row[WEEK];
        }

        void endWeek() {
            row[WEEK]++;
        }

        void add(int nerve, int drawer, boolean lawyer) {
            int person = row[PEOPLE];
            if (!isPlace(person)) {
                return;
            }
            row[NERVES + person] = nerve;
            row[DRAWERS + person] = drawer;
            row[LIVING] |= 1 << person;
            if (lawyer) {
                row[LAWYERS] |= 1 << person;
            }
            row[PEOPLE] = person + 1;
        }

        int nerve(int person) {
            return isPlace(person) ? row[NERVES + person] : 0;
        }

        void changeNerve(int person, int nerve) {
            if (isPlace(person)) {
                row[NERVES + person] = nerve;
            }
        }

        int drawer(int person) {
            return isPlace(person) ? row[DRAWERS + person] : 0;
        }

        int spouse(int person) {
            return isPlace(person) ? row[SPOUSES + person] - 1 : NONE;
        }

        boolean lives(int person) {
            return isIn(person, row[LIVING]);
        }

        boolean isLawyer(int person) {
            return isIn(person, row[LAWYERS]);
        }

        boolean hasQuarrel(int pair) {
            return heat(pair) > 0;
        }

        int heat(int pair) {
            return pair < 0 || pair >= PAIRS ? 0 : row[QUARRELS + pair] & 127;
        }

        int reason(int pair) {
            return pair < 0 || pair >= PAIRS ? 0 : row[QUARRELS + pair] >> 7 & 15;
        }

        int cut(int pair) {
            return pair < 0 || pair >= PAIRS ? 0 : row[QUARRELS + pair] >> 11;
        }

        void begin(int pair, int heat, int reason) {
            if (pair >= 0 && pair < PAIRS) {
                row[QUARRELS + pair] = heat | reason << 7;
                row[TIES + LESSER[pair]] |= 1 << GREATER[pair];
                row[TIES + GREATER[pair]] |= 1 << LESSER[pair];
            }
        }

        void end(int pair) {
            if (pair >= 0 && pair < PAIRS) {
                row[QUARRELS + pair] = 0;
                row[TIES + LESSER[pair]] &= ~(1 << GREATER[pair]);
                row[TIES + GREATER[pair]] &= ~(1 << LESSER[pair]);
            }
        }

        void setHeat(int pair, int heat) {
            if (pair >= 0 && pair < PAIRS) {
                row[QUARRELS + pair] = row[QUARRELS + pair] & ~127 | heat;
            }
        }

        void addCut(int pair) {
            if (pair >= 0 && pair < PAIRS && cut(pair) < MOST_CUT) {
                row[QUARRELS + pair] += 1 << 11;
            }
        }

        /** With whom one has QUARRELS, as bits. */
        int ties(int person) {
            return isPlace(person) ? row[TIES + person] : 0;
        }

        int heatAround(int person) {
            int sum = 0;
            for (int other = 0; other < MOST_PEOPLE; other++) {
                sum += heat(pairOf(person, other));
            }
            return sum;
        }

        int quarrels() {
            int many = 0;
            for (int pair = 0; pair < PAIRS; pair++) {
                if (row[QUARRELS + pair] != 0) {
                    many++;
                }
            }
            return many;
        }

        int allHeat() {
            int sum = 0;
            for (int pair = 0; pair < PAIRS; pair++) {
                sum += heat(pair);
            }
            return sum;
        }

        int neededWords() {
            int bits = 0;
            for (int pair = 0; pair < PAIRS; pair++) {
                if (hasQuarrel(pair)) {
                    bits |= 1 << reason(pair);
                }
            }
            return bits;
        }

        boolean canSettle(int pair) {
            if (!hasQuarrel(pair)) {
                return false;
            }
            int helpers = row[LAWYERS] & row[LIVING] | 1 << LESSER[pair] | 1 << GREATER[pair];
            return isIn(reason(pair), wordsOf(helpers));
        }

        private int wordsOf(int group) {
            int words = 0;
            for (int person = 0; person < MOST_PEOPLE; person++) {
                if (isIn(person, group)) {
                    words |= row[DRAWERS + person];
                }
            }
            return words;
        }

        int fewestDrawers() {
            int needed = neededWords();
            int fewest = NONE;
            for (int group = 0; group <= EVERYBODY; group++) {
                boolean live = (group & ~row[LIVING]) == 0;
                boolean fewer = fewest == NONE || Integer.bitCount(group) < Integer.bitCount(fewest);
                if (live && fewer && (needed & ~wordsOf(group)) == 0) {
                    fewest = group;
                }
            }
            return fewest;
        }

        boolean canMarry(int person, int other) {
            return person != other && isSingle(person) && isSingle(other);
        }

        private boolean isSingle(int person) {
            return lives(person) && spouse(person) == NONE;
        }

        /** Weds two as a TEXT does: a QUARREL of both stays. */
        void join(int person, int other) {
            if (isPlace(person) && isPlace(other)) {
                row[SPOUSES + person] = other + 1;
                row[SPOUSES + other] = person + 1;
            }
        }

        void marry(int person, int other) {
            join(person, other);
            end(pairOf(person, other));
        }

        boolean canQuarrel(int person, int other) {
            return person != other && lives(person) && lives(other) && spouse(person) != other
                && !hasQuarrel(pairOf(person, other));
        }

        /** One DIES, and the HEIR comes into QUARRELS and DRAWER. */
        void bury(int person) {
            if (!isPlace(person)) {
                return;
            }
            int heir = spouse(person);
            row[LIVING] &= ~(1 << person);
            row[SPOUSES + person] = 0;
            if (isPlace(heir)) {
                row[SPOUSES + heir] = 0;
                row[DRAWERS + heir] |= row[DRAWERS + person];
            }
            for (int other = 0; other < MOST_PEOPLE; other++) {
                int left = pairOf(person, other);
                if (hasQuarrel(left)) {
                    if (heir != NONE && heir != other) {
                        inherit(left, pairOf(heir, other));
                    }
                    end(left);
                }
            }
        }

        private void inherit(int left, int own) {
            if (hasQuarrel(own)) {
                setHeat(own, Math.min(MOST_HEAT, heat(own) + heat(left)));
            } else {
                begin(own, heat(left), reason(left));
            }
        }

        int hottest() {
            int best = NONE;
            for (int pair = 0; pair < PAIRS; pair++) {
                if (hasQuarrel(pair) && heat(pair) > heat(best)) {
                    best = pair;
                }
            }
            return best;
        }

        int mostBitter() {
            int best = NONE;
            int most = NONE;
            for (int person = 0; person < MOST_PEOPLE; person++) {
                if (lives(person) && heatAround(person) > most) {
                    best = person;
                    most = heatAround(person);
                }
            }
            return best;
        }

        int mostCutting() {
            int best = NONE;
            int most = NONE;
            for (int person = 0; person < MOST_PEOPLE; person++) {
                if (lives(person) && cutAround(person) > most) {
                    best = person;
                    most = cutAround(person);
                }
            }
            return best;
        }

        private int cutAround(int person) {
            int sum = 0;
            for (int other = 0; other < MOST_PEOPLE; other++) {
                sum += cut(pairOf(person, other));
            }
            return sum;
        }

        int bestMatch(int person) {
            int best = NONE;
            int least = Integer.MAX_VALUE;
            for (int other = 0; other < MOST_PEOPLE; other++) {
                int heat = heatAround(other) - heat(pairOf(person, other));
                if (canMarry(person, other) && heat < least) {
                    best = other;
                    least = heat;
                }
            }
            return best;
        }
    }

    /** All that an IMAGE keeps: the PEOPLE now, ACTS that can be UNDONE, what is SEEN, STATUS. */
    private static final class Books {
        private final Folk folk = new Folk();
        // A ring of how it was ahead of each ACT.
        private final int[] before = new int[MOST_ACTS * Folk.LENGTH];
        private int oldest = 0;
        private int acts = 0;
        private final int[] seenPair = new int[MOST_SEEN];
        private final int[] seenWeeks = new int[MOST_SEEN];
        private final int[] seenHeat = new int[MOST_SEEN];
        private int sights = 0;
        private final int[] refused = new int[3];

        Folk folk() {
            return folk;
        }

        int acts() {
            return acts;
        }

        int sights() {
            return sights;
        }

        int refusals(int kind) {
            return kind < 0 || kind > BAD_SIGHT ? 0 : refused[kind];
        }

        /** Counts a refused call, and gives what such a call answers. */
        int refuse(int kind) {
            if (kind >= 0 && kind <= BAD_SIGHT) {
                refused[kind]++;
            }
            return NONE;
        }

        void beginAnew(Folk told) {
            folk.copyFrom(told);
            oldest = 0;
            acts = 0;
            sights = 0;
        }

        void copyFrom(Books other) {
            folk.copyFrom(other.folk);
            System.arraycopy(other.before, 0, before, 0, MOST_ACTS * Folk.LENGTH);
            oldest = other.oldest;
            acts = other.acts;
            System.arraycopy(other.seenPair, 0, seenPair, 0, MOST_SEEN);
            System.arraycopy(other.seenWeeks, 0, seenWeeks, 0, MOST_SEEN);
            System.arraycopy(other.seenHeat, 0, seenHeat, 0, MOST_SEEN);
            sights = other.sights;
            System.arraycopy(other.refused, 0, refused, 0, BAD_SIGHT + 1);
        }

        void keepAct() {
            folk.saveTo(before, (oldest + acts) % MOST_ACTS);
            if (acts < MOST_ACTS) {
                acts++;
            } else {
                oldest = (oldest + 1) % MOST_ACTS;
            }
        }

        int takeBackAct() {
            if (acts == 0) {
                return NONE;
            }
            acts--;
            folk.loadFrom(before, (oldest + acts) % MOST_ACTS);
            return acts;
        }

        int addSight(int pair, int weeks, int heat) {
            if (sights < MOST_SEEN) {
                seenPair[sights] = pair;
                seenWeeks[sights] = weeks;
                seenHeat[sights] = heat;
                sights++;
            }
            return sights;
        }

        void dropSights() {
            sights = 0;
        }

        int lastSeenWeek() {
            int last = 0;
            for (int i = 0; i < sights && i < MOST_SEEN; i++) {
                last = Math.max(last, seenWeeks[i]);
            }
            return last;
        }

        /** Whether all that is SEEN behind so many WEEKS is so among these PEOPLE. */
        boolean fits(Folk then, int weeks) {
            for (int i = 0; i < sights && i < MOST_SEEN; i++) {
                if (seenWeeks[i] == weeks && then.heat(seenPair[i]) != seenHeat[i]) {
                    return false;
                }
            }
            return true;
        }
    }

    /** HEATS and CUTS as rows of steps for a stack, and the WEEKS that go by them. */
    private static final class Rules {
        // Steps: a NUMBER is itself, a VALUE its place less 6, all else is below that.
        static final int VALUES = 6;
        static final int NOT = -7;
        static final int AND = -8;
        static final int OR = -9;
        static final int LESS = -10;
        static final int EQUAL = -11;
        static final int PLUS = -12;
        static final int MINUS = -13;
        static final int TIMES = -14;
        static final int DIVIDED = -15;
        // Six EXPRs within each other keep at most five numbers each, and the last one one more.
        private static final int STACK = 40;
        private static final int HEAT = 0;
        private static final int NERVE = 1;
        private static final int UNLIKE = 2;
        private static final int MANY = 3;
        private static final int CUT = 4;
        private static final int WEEK = 5;

        private final int[] steps = new int[MOST_BYTES];
        private int length = 0;
        private int heatsFrom = NONE;
        private int heatsTo = NONE;
        private int cutsFrom = NONE;
        private int cutsTo = NONE;
        private final int[] values = new int[VALUES];
        private final int[] stack = new int[STACK];

        void clear() {
            length = 0;
            heatsFrom = NONE;
            heatsTo = NONE;
            cutsFrom = NONE;
            cutsTo = NONE;
        }

        void copyFrom(Rules other) {
            System.arraycopy(other.steps, 0, steps, 0, MOST_BYTES);
            length = other.length;
            heatsFrom = other.heatsFrom;
            heatsTo = other.heatsTo;
            cutsFrom = other.cutsFrom;
            cutsTo = other.cutsTo;
        }

        boolean hasHeats() {
            return heatsFrom != NONE;
        }

        boolean hasCuts() {
            return cutsFrom != NONE;
        }

        void beginHeats() {
            heatsFrom = length;
        }

        void endHeats() {
            heatsTo = length;
        }

        void beginCuts() {
            cutsFrom = length;
        }

        void endCuts() {
            cutsTo = length;
        }

        void add(int step) {
            if (length < MOST_BYTES) {
                steps[length] = step;
                length++;
            }
        }

        void letPass(Folk folk, int weeks) {
            for (int week = 0; week < weeks; week++) {
                for (int pair = 0; pair < PAIRS; pair++) {
                    if (folk.hasQuarrel(pair)) {
                        letWork(folk, pair);
                    }
                }
                folk.endWeek();
            }
        }

        private void letWork(Folk folk, int pair) {
            setValues(folk, pair);
            int heat = Math.min(MOST_HEAT, values[HEAT] + change());
            if (heat <= 0) {
                folk.end(pair);
                return;
            }
            folk.setHeat(pair, heat);
            values[HEAT] = heat;
            if (cutsNow()) {
                folk.addCut(pair);
            }
        }

        boolean wouldCut(Folk folk, int pair) {
            setValues(folk, pair);
            return cutsNow();
        }

        private int change() {
            if (!hasHeats()) {
                return values[NERVE] > 9 ? 1 : -1;
            }
            return Math.max(-MOST_CHANGE, Math.min(MOST_CHANGE, worth(heatsFrom, heatsTo)));
        }

        private boolean cutsNow() {
            return hasCuts() ? worth(cutsFrom, cutsTo) > 0 : values[HEAT] >= 20;
        }

        private void setValues(Folk folk, int pair) {
            if (pair < 0 || pair >= PAIRS) {
                return;
            }
            int lesser = LESSER[pair];
            int greater = GREATER[pair];
            values[HEAT] = folk.heat(pair);
            values[NERVE] = folk.nerve(lesser) + folk.nerve(greater);
            values[UNLIKE] = Math.abs(folk.nerve(lesser) - folk.nerve(greater));
            values[MANY] = Integer.bitCount(folk.ties(lesser)) + Integer.bitCount(folk.ties(greater)) - 1;
            values[CUT] = folk.cut(pair);
            values[WEEK] = folk.week();
        }

        private int worth(int from, int to) {
            int top = 0;
            for (int at = Math.max(0, from); at < to && at < MOST_BYTES; at++) {
                int step = steps[at];
                if (step >= -VALUES) {
                    if (top < STACK) {
                        stack[top] = step >= 0 ? step : values[step + VALUES];
                        top++;
                    }
                } else if (step == NOT) {
                    if (top > 0) {
                        stack[top - 1] = stack[top - 1] == 0 ? 1 : 0;
                    }
                } else if (top > 1) {
                    top--;
                    stack[top - 1] = joined(step, stack[top - 1], stack[top]);
                }
            }
            return top > 0 ? stack[top - 1] : 0;
        }

        private static int joined(int step, int left, int right) {
            switch (step) {
                case AND:
                    return left != 0 && right != 0 ? 1 : 0;
                case OR:
                    return left != 0 || right != 0 ? 1 : 0;
                case LESS:
                    return left < right ? 1 : 0;
                case EQUAL:
                    return left == right ? 1 : 0;
                case PLUS:
                    return left + right;
                case MINUS:
                    return left - right;
                case TIMES:
                    return left * right;
                default:
                    return right == 0 ? 0 : left / right;
            }
        }
    }

    /** The TOKENS of a TEXT, one by one. */
    private static final class Tokens {
        // A sign's kind is its byte.
        static final int END = 0;
        static final int NO_TOKEN = 1;
        static final int NUMBER = 2;
        // The words' kinds go by their places in WORDS (any other word's is behind the last one): first the
        // VALUES, as the rules have them.
        static final int FIRST_WORD = 200;
        static final int LAST_VALUE = 205;
        static final int OR = 206;
        static final int AND = 207;
        static final int NOT = 208;
        static final int PERSON = 209;
        static final int LAWYER = 210;
        static final int WED = 211;
        static final int QUARREL = 212;
        static final int HEATS = 213;
        static final int CUTS = 214;
        private static final String WORDS =
            "heat nerve unlike many cut week or and not person lawyer wed quarrel heats cuts ";
        private static final String SIGNS = ";()+-*/<=";
        private static final int MOST_DIGITS = 4;

        private final byte[] text = new byte[MOST_BYTES];
        private int length = 0;
        private int start = 0;
        private int end = 0;
        private int kind = END;
        private int number = 0;

        void open(byte[] bytes, int many) {
            length = Math.max(0, Math.min(many, Math.min(bytes.length, MOST_BYTES)));
            System.arraycopy(bytes, 0, text, 0, length);
            end = 0;
            advance();
        }

        int kind() {
            return kind;
        }

        /** The place of this TOKEN's first byte; the text's length behind the last one. */
        int start() {
            return start;
        }

        int number() {
            return number;
        }

        boolean hasTooManyDigits() {
            return end - start > MOST_DIGITS;
        }

        boolean isWord() {
            return kind >= FIRST_WORD;
        }

        boolean isValue() {
            return kind >= FIRST_WORD && kind <= LAST_VALUE;
        }

        void advance() {
            start = end;
            while (start < length && (text[start] == ' ' || text[start] == '\n')) {
                start++;
            }
            end = start;
            if (start >= length) {
                kind = END;
            } else if (text[start] >= 'a' && text[start] <= 'z') {
                readWord();
            } else if (text[start] >= '0' && text[start] <= '9') {
                readNumber();
            } else {
                readSign();
            }
        }

        private void readSign() {
            char sign = (char) (text[start] & 255);
            kind = SIGNS.indexOf(sign) >= 0 ? sign : NO_TOKEN;
            end = start + 1;
        }

        private void readNumber() {
            number = 0;
            while (end < length && text[end] >= '0' && text[end] <= '9') {
                // Held at the most that counts, so that a long row of digits can't wrap.
                number = Math.min(9999, 10 * number + text[end] - '0');
                end++;
            }
            kind = NUMBER;
        }

        private void readWord() {
            while (end < length && text[end] >= 'a' && text[end] <= 'z') {
                end++;
            }
            kind = FIRST_WORD;
            int same = 0;
            for (int i = 0; i < WORDS.length(); i++) {
                char letter = WORDS.charAt(i);
                if (letter == ' ') {
                    if (same == end - start) {
                        return;
                    }
                    kind++;
                    same = 0;
                } else if (same >= 0 && start + same < end && text[start + same] == letter) {
                    same++;
                } else {
                    same = NONE;
                }
            }
        }
    }

    /** Reads a TEXT into PEOPLE, QUARRELS and rules, up to the first FAULT. */
    private static final class Reader {
        private static final int MISPLACED = 1;
        private static final int TOO_MUCH = 2;
        private static final int UNKNOWN = 3;
        private static final int TAKEN = 4;
        private static final int TWICE = 5;
        private static final int MOST_WITHIN = 6;
        private static final int MOST_NOTS = 6;

        private final Tokens tokens = new Tokens();
        private final Folk folk = new Folk();
        private final Rules rules = new Rules();
        private int found = 0;
        private int place = NONE;

        Folk folk() {
            return folk;
        }

        Rules rules() {
            return rules;
        }

        /** The FAULT; 0 without. */
        int found() {
            return found;
        }

        int place() {
            return place;
        }

        void readTown(byte[] tape, int bytes) {
            folk.clear();
            rules.clear();
            found = 0;
            place = NONE;
            tokens.open(tape, bytes);
            for (int line = 0; line <= MOST_BYTES && tokens.kind() != Tokens.END; line++) {
                if (!readLine() || !take(';')) {
                    return;
                }
            }
        }

        private boolean refuse(int fault) {
            found = fault;
            place = tokens.start();
            return false;
        }

        private boolean take(int kind) {
            if (tokens.kind() != kind) {
                return refuse(MISPLACED);
            }
            tokens.advance();
            return true;
        }

        private boolean readLine() {
            switch (tokens.kind()) {
                case Tokens.PERSON:
                case Tokens.LAWYER:
                    return readPerson(tokens.kind() == Tokens.LAWYER);
                case Tokens.WED:
                    return readWed();
                case Tokens.QUARREL:
                    return readQuarrel();
                case Tokens.HEATS:
                    return readHeats();
                case Tokens.CUTS:
                    return readCuts();
                default:
                    return refuse(MISPLACED);
            }
        }

        /** A NUMBER from low to high, which is taken; NONE with a FAULT. */
        private int takeNumber(int low, int high) {
            if (tokens.kind() != Tokens.NUMBER) {
                refuse(MISPLACED);
                return NONE;
            }
            int number = tokens.number();
            if (tokens.hasTooManyDigits() || number < low || number > high) {
                refuse(TOO_MUCH);
                return NONE;
            }
            tokens.advance();
            return number;
        }

        private boolean readPerson(boolean lawyer) {
            if (folk.people() >= MOST_PEOPLE) {
                return refuse(TOO_MUCH);
            }
            tokens.advance();
            int nerve = takeNumber(0, MOST_NERVE);
            if (nerve == NONE) {
                return false;
            }
            int drawer = takeNumber(0, MOST_DRAWER);
            if (drawer == NONE) {
                return false;
            }
            folk.add(nerve, drawer, lawyer);
            return true;
        }

        /** Looks at a PERSON without taking it, as it may still be TAKEN: NONE with a FAULT. */
        private int lookAtPerson() {
            if (tokens.kind() != Tokens.NUMBER) {
                refuse(MISPLACED);
                return NONE;
            }
            if (tokens.hasTooManyDigits()) {
                refuse(TOO_MUCH);
                return NONE;
            }
            if (tokens.number() >= folk.people()) {
                refuse(UNKNOWN);
                return NONE;
            }
            return tokens.number();
        }

        private boolean readWed() {
            tokens.advance();
            int first = lookAtPerson();
            if (first == NONE) {
                return false;
            }
            if (folk.spouse(first) != NONE) {
                return refuse(TAKEN);
            }
            tokens.advance();
            int second = lookAtPerson();
            if (second == NONE) {
                return false;
            }
            if (!folk.canMarry(first, second)) {
                return refuse(TAKEN);
            }
            tokens.advance();
            folk.join(first, second);
            return true;
        }

        private boolean readQuarrel() {
            tokens.advance();
            int first = lookAtPerson();
            if (first == NONE) {
                return false;
            }
            tokens.advance();
            int second = lookAtPerson();
            if (second == NONE) {
                return false;
            }
            int pair = pairOf(first, second);
            if (pair == NONE || folk.hasQuarrel(pair)) {
                return refuse(TAKEN);
            }
            tokens.advance();
            int heat = takeNumber(1, MOST_HEAT);
            if (heat == NONE) {
                return false;
            }
            int reason = takeNumber(0, MOST_WORD);
            if (reason == NONE) {
                return false;
            }
            folk.begin(pair, heat, reason);
            return true;
        }

        private boolean readHeats() {
            if (rules.hasHeats()) {
                return refuse(TWICE);
            }
            tokens.advance();
            rules.beginHeats();
            boolean whole = readExpr(0);
            rules.endHeats();
            return whole;
        }

        private boolean readCuts() {
            if (rules.hasCuts()) {
                return refuse(TWICE);
            }
            tokens.advance();
            rules.beginCuts();
            boolean whole = readExpr(0);
            rules.endCuts();
            return whole;
        }

        private boolean readExpr(int within) {
            if (within >= MOST_WITHIN) {
                boolean couldBegin = tokens.kind() == Tokens.NUMBER || tokens.isWord() || tokens.kind() == '(';
                return refuse(couldBegin ? TOO_MUCH : MISPLACED);
            }
            boolean whole = readAnd(within);
            for (int i = 0; i < MOST_BYTES && whole && tokens.kind() == Tokens.OR; i++) {
                tokens.advance();
                whole = readAnd(within);
                rules.add(Rules.OR);
            }
            return whole;
        }

        private boolean readAnd(int within) {
            boolean whole = readNot(within);
            for (int i = 0; i < MOST_BYTES && whole && tokens.kind() == Tokens.AND; i++) {
                tokens.advance();
                whole = readNot(within);
                rules.add(Rules.AND);
            }
            return whole;
        }

        private boolean readNot(int within) {
            int nots = 0;
            while (nots < MOST_NOTS && tokens.kind() == Tokens.NOT) {
                tokens.advance();
                nots++;
            }
            if (tokens.kind() == Tokens.NOT) {
                return refuse(TOO_MUCH);
            }
            boolean whole = readTest(within);
            for (int i = 0; i < nots; i++) {
                rules.add(Rules.NOT);
            }
            return whole;
        }

        private boolean readTest(int within) {
            if (!readSum(within)) {
                return false;
            }
            int sign = tokens.kind();
            if (sign != '<' && sign != '=') {
                return true;
            }
            tokens.advance();
            boolean whole = readSum(within);
            rules.add(sign == '<' ? Rules.LESS : Rules.EQUAL);
            return whole;
        }

        private boolean readSum(int within) {
            boolean whole = readProduct(within);
            for (int i = 0; i < MOST_BYTES && whole; i++) {
                int sign = tokens.kind();
                if (sign != '+' && sign != '-') {
                    return true;
                }
                tokens.advance();
                whole = readProduct(within);
                rules.add(sign == '+' ? Rules.PLUS : Rules.MINUS);
            }
            return whole;
        }

        private boolean readProduct(int within) {
            boolean whole = readPart(within);
            for (int i = 0; i < MOST_BYTES && whole; i++) {
                int sign = tokens.kind();
                if (sign != '*' && sign != '/') {
                    return true;
                }
                tokens.advance();
                whole = readPart(within);
                rules.add(sign == '*' ? Rules.TIMES : Rules.DIVIDED);
            }
            return whole;
        }

        private boolean readPart(int within) {
            if (tokens.isValue()) {
                rules.add(tokens.kind() - Tokens.FIRST_WORD - Rules.VALUES);
            } else if (tokens.isWord()) {
                return refuse(UNKNOWN);
            } else if (tokens.kind() == '(') {
                tokens.advance();
                if (!readExpr(within + 1)) {
                    return false;
                }
                if (tokens.kind() != ')') {
                    return refuse(MISPLACED);
                }
            } else if (tokens.kind() != Tokens.NUMBER) {
                return refuse(MISPLACED);
            } else if (tokens.hasTooManyDigits()) {
                return refuse(TOO_MUCH);
            } else {
                rules.add(tokens.number());
            }
            tokens.advance();
            return true;
        }
    }

    /** Who lives, and who has QUARRELS with whom, as bits: parts, tables, ways. */
    private static final class Circle {
        private final int[] ties = new int[MOST_PEOPLE];
        private final int[] tables = new int[EVERYBODY + 1];
        private int living = 0;

        void gather(Folk folk) {
            living = folk.living();
            for (int person = 0; person < MOST_PEOPLE; person++) {
                ties[person] = folk.ties(person);
            }
        }

        /** All who have a QUARREL with one of a group. */
        private int tiesOfAny(int group) {
            int bits = 0;
            for (int person = 0; person < MOST_PEOPLE; person++) {
                if (isIn(person, group)) {
                    bits |= ties[person];
                }
            }
            return bits;
        }

        private boolean isPeaceful(int group) {
            return (tiesOfAny(group) & group) == 0;
        }

        private boolean allLive(int group) {
            return (group & ~living) == 0;
        }

        int mostAsked() {
            int most = 0;
            for (int group = 1; group <= EVERYBODY; group++) {
                boolean more = Integer.bitCount(group) > Integer.bitCount(most);
                if (more && allLive(group) && isPeaceful(group)) {
                    most = group;
                }
            }
            return most;
        }

        int fewestTables() {
            tables[0] = 0;
            for (int group = 1; group <= EVERYBODY; group++) {
                if (allLive(group)) {
                    tables[group] = tablesFor(group);
                }
            }
            return tables[living & EVERYBODY];
        }

        /** The least of a group sits at some table: each that it can be is tried. */
        private int tablesFor(int group) {
            int least = group & -group;
            int fewest = MOST_PEOPLE;
            for (int table = least; table <= group; table++) {
                boolean fit = (table & ~group) == 0 && (table & least) != 0;
                if (fit && isPeaceful(table)) {
                    fewest = Math.min(fewest, 1 + tables[(group & ~table) & EVERYBODY]);
                }
            }
            return fewest;
        }

        int oneCamp() {
            int one = 0;
            int other = 0;
            for (int person = 0; person < MOST_PEOPLE; person++) {
                if (isIn(person, living & ~(one | other))) {
                    one |= 1 << person;
                    for (int step = 0; step < MOST_PEOPLE; step++) {
                        other |= tiesOfAny(one);
                        one |= tiesOfAny(other);
                    }
                }
            }
            return (one & other) == 0 ? one : NONE;
        }

        int steps(int person, int other) {
            if (!isIn(person, living) || !isIn(other, living)) {
                return NONE;
            }
            int reached = 1 << person;
            for (int step = 0; step < MOST_PEOPLE; step++) {
                if (isIn(other, reached)) {
                    return step;
                }
                reached |= oneStepFrom(reached);
            }
            return NONE;
        }

        private int oneStepFrom(int group) {
            int bits = 0;
            for (int person = 0; person < MOST_PEOPLE; person++) {
                if (isIn(person, group)) {
                    bits |= living & ~ties[person];
                }
            }
            return bits;
        }

        int friendsOf(int person) {
            if (!isIn(person, living)) {
                return 0;
            }
            int foes = ties[person];
            return tiesOfAny(foes) & living & ~foes & ~(1 << person);
        }

        int threes() {
            int ends = 0;
            for (int pair = 0; pair < PAIRS; pair++) {
                int lesser = LESSER[pair];
                int greater = GREATER[pair];
                if (isIn(greater, ties[lesser])) {
                    ends += Integer.bitCount(ties[lesser] & ties[greater]);
                }
            }
            // Each three is met once by each of its pairs.
            return ends / 3;
        }

        int foesOfAll() {
            int bits = 0;
            for (int person = 0; person < MOST_PEOPLE; person++) {
                int others = living & ~(1 << person);
                if (isIn(person, living) && (others & ~ties[person]) == 0) {
                    bits |= 1 << person;
                }
            }
            return bits;
        }
    }

    /** By whose other NERVE all that is SEEN would be so, and what that would make of QUARRELS. */
    private static final class Guesses {
        // A guess is 10 by who, and the NERVE.
        private static final int GUESSES = 10 * MOST_PEOPLE;

        private final Folk trial = new Folk();
        private final boolean[] right = new boolean[GUESSES];
        // Two numbers of bits for each pair: which HEATS it would have.
        private final long[] heats = new long[2 * PAIRS];

        void weigh(Books books, Rules rules) {
            Folk now = books.folk();
            for (int guess = 0; guess < GUESSES; guess++) {
                int person = guess / 10;
                boolean isOther = now.lives(person) && now.nerve(person) != guess % 10;
                right[guess] = isOther && holds(books, rules, guess);
            }
        }

        /** Whether all that is SEEN would be so by a guess (NONE: as it is). */
        boolean holds(Books books, Rules rules, int guess) {
            suppose(books.folk(), guess);
            int last = books.lastSeenWeek();
            for (int week = 0; week <= last; week++) {
                if (week > 0) {
                    rules.letPass(trial, 1);
                }
                if (!books.fits(trial, week)) {
                    return false;
                }
            }
            return true;
        }

        private void suppose(Folk now, int guess) {
            trial.copyFrom(now);
            if (guess >= 0 && guess < GUESSES) {
                trial.changeNerve(guess / 10, guess % 10);
            }
        }

        int howMany() {
            int many = 0;
            for (int guess = 0; guess < GUESSES; guess++) {
                if (right[guess]) {
                    many++;
                }
            }
            return many;
        }

        int first() {
            for (int guess = 0; guess < GUESSES; guess++) {
                if (right[guess]) {
                    return guess;
                }
            }
            return NONE;
        }

        void collectHeats(Folk now, Rules rules) {
            Arrays.fill(heats, 0L);
            for (int guess = 0; guess < GUESSES; guess++) {
                if (right[guess]) {
                    suppose(now, guess);
                    rules.letPass(trial, SOON);
                    noteHeats();
                }
            }
        }

        private void noteHeats() {
            for (int pair = 0; pair < PAIRS; pair++) {
                int heat = trial.heat(pair);
                heats[2 * pair + (heat >> 6)] |= 1L << (heat & 63);
            }
        }

        int unlike(int pair) {
            if (pair < 0 || pair >= PAIRS) {
                return 0;
            }
            return Long.bitCount(heats[2 * pair]) + Long.bitCount(heats[2 * pair + 1]);
        }

        int mostUnlike(Folk now) {
            int best = NONE;
            for (int pair = 0; pair < PAIRS; pair++) {
                if (now.hasQuarrel(pair) && unlike(pair) > unlike(best)) {
                    best = pair;
                }
            }
            return best;
        }
    }

    /** Two who each give in (1) or not (0). */
    private static final class Game {
        /** How many couples of choices rest (what 0), or the first (1). */
        static int answer(int nerve, int othersNerve, int loss, int what) {
            int many = 0;
            int first = NONE;
            for (int choice = 0; choice <= 1; choice++) {
                for (int others = 0; others <= 1; others++) {
                    if (isBest(choice, others, nerve, loss) && isBest(others, choice, othersNerve, loss)) {
                        many++;
                        first = first == NONE ? 10 * choice + others : first;
                    }
                }
            }
            return what == 0 ? many : first;
        }

        private static boolean isBest(int own, int others, int nerve, int loss) {
            return gain(own, others, nerve, loss) >= gain(1 - own, others, nerve, loss);
        }

        private static int gain(int own, int others, int nerve, int loss) {
            if (own == 1) {
                return others == 1 ? 2 : -nerve;
            }
            return others == 1 ? 5 : -loss;
        }
    }

    /** YEARS by a seed. */
    private static final class Fate {
        private int seed = 0;

        private int draw(int n) {
            seed = seed * 1103515245 + 12345;
            return n <= 0 ? 0 : (seed >>> 16 & 32767) % n;
        }

        void run(Folk folk, Rules rules, int start, int weeks) {
            seed = start;
            for (int week = 0; week < weeks; week++) {
                int event = draw(8);
                if (folk.people() > 0) {
                    strike(folk, event);
                }
                rules.letPass(folk, 1);
            }
        }

        private void strike(Folk folk, int event) {
            if (event == 0) {
                int person = draw(folk.people());
                if (folk.lives(person)) {
                    folk.bury(person);
                }
            } else if (event == 1) {
                strikeUpQuarrel(folk);
            } else if (event == 2) {
                int person = draw(folk.people());
                int other = draw(folk.people());
                if (folk.canMarry(person, other)) {
                    folk.marry(person, other);
                }
            }
        }

        private void strikeUpQuarrel(Folk folk) {
            int person = draw(folk.people());
            int other = draw(folk.people());
            int heat = draw(30) + 1;
            int reason = draw(10);
            if (folk.canQuarrel(person, other)) {
                folk.begin(pairOf(person, other), heat, reason);
            }
        }
    }
}
