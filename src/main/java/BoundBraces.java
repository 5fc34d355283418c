/**
 * An assembly whose members are held, by straps, to what they have said.
 * The promises stand in ../shared/DOC.md; its words in capitals are the names used here.
 */
public final class BoundBraces {
    public static final int NONE = -1, UNKNOWN = -1000000001, OUTSIDE = -1000000002, NOT = -1000000003, FULL = -1000000004;

    private static final int MATTERS = 8;
    private static final int MOST_LETTERS = 240;
    private static final int MOST_MEMBERS = 6;
    private static final int MOST_STRAPS = 12;
    private static final int MOST_NOTCHES = 9;
    private static final int MOST_STRAINS = 9;
    private static final int MOST_WEIGHT = 99;
    private static final int MOST_FIGURES = 3;
    private static final int MOST_SEEN = 6;
    private static final int MOST_ENTRIES = 20;
    private static final int MOST_UNDONE = 24;
    private static final int MOST_TIMES = 20;
    private static final int MOST_NIGHTS = 60;
    private static final int MOST_ON_AGENDA = 5;
    private static final int MOST_PUTS_TRIED = 99;
    private static final int IMAGES = 2;
    private static final int COUNT_LIMIT = 90000;
    private static final int HUNDRED = 100;
    private static final int BILLION = 1000000000;
    private static final int OFFSET = 1000;
    private static final int LEAST_FAULT = -10;

    private static final int KINDS = 4, SIDES = 2, WAYS = 3;
    private static final int OLD = 1, ON_TOES = 2, FOUNDER = 3;
    private static final int AGAINST = 0, FOR = 1, AWAY = 2;
    private static final int HOLDING = 0, GAVE = 1, LET_GO = 2;

    private static final int MATTER_SETS = 1 << MATTERS;
    private static final int STRAP_SETS = 1 << MOST_STRAPS;
    private static final int[] ORDERS = {1, 1, 2, 6, 24, 120, 720};

    private final int[] letters;
    private int letterCount;
    private int faultLetter;
    private int currentSeed;
    private final Reader reader;
    private final House assembly;
    private final Sitting now;
    private final Trial trial;
    private final Past past;
    private final Papers papers;
    private final Braces[] images;
    private final int[] imageSeeds;
    private final boolean[] isKept;

    public BoundBraces() {
        letters = new int[MOST_LETTERS];
        letterCount = 0;
        faultLetter = NONE;
        currentSeed = 0;
        reader = new Reader(letters);
        assembly = new House();
        now = new Sitting(assembly);
        trial = new Trial(now, new Sitting(assembly));
        past = new Past();
        papers = new Papers();
        images = new Braces[IMAGES];
        for (int i = 0; i < IMAGES; i++) {
            images[i] = new Braces();
        }
        imageSeeds = new int[IMAGES];
        isKept = new boolean[IMAGES];
    }

    // ---- the house

    public int feed(int letter) {
        if (isOutside(letter, 256)) {
            return OUTSIDE;
        }
        if (letterCount >= MOST_LETTERS) {
            return FULL;
        }
        letters[letterCount] = letter;
        letterCount++;
        return letterCount;
    }

    public int house() {
        int number = reader.readText(letterCount);
        letterCount = 0;
        faultLetter = reader.faultLetter;
        if (number != 0) {
            return LEAST_FAULT - number;
        }
        assembly.copyFrom(reader.house);
        now.braces.copyFrom(reader.braces);
        papers.clear();
        past.clear();
        for (int i = 0; i < IMAGES; i++) {
            isKept[i] = false;
        }
        return assembly.members;
    }

    public int fault() {
        return faultLetter;
    }

    public int told(int what) {
        switch (what) {
            case 0: return assembly.q;
            case 1: return assembly.members;
            case 2: return now.braces.straps;
            case 3: return letterCount;
            case 4: return now.braces.puts;
            case 5: return now.braces.passed;
            case 6: return now.braces.twangs;
            case 7: return now.braces.sessions;
            case 8: return now.braces.setOfHolding();
            case 9: return now.setOfHanging();
            case 10: return now.sideHeldMost();
            case 11: return now.setOfPassing();
            case 12: return papers.seen;
            case 13: return papers.entries;
            case 14: return past.count;
            default: return OUTSIDE;
        }
    }

    public int member(int m, int what) {
        if (isOutside(m, assembly.members)) {
            return UNKNOWN;
        }
        switch (what) {
            case 0: return assembly.kind[m];
            case 1: return assembly.side[m];
            case 2: return now.braces.weight[m];
            case 3: return assembly.would[m];
            case 4: return now.braces.setHoldingOf(m);
            case 5: return now.setOfHeldOn(m);
            case 6: return now.braces.clashesOf(m);
            case 7: return now.braces.freedOf(m);
            default: return OUTSIDE;
        }
    }

    public int strap(int s, int what) {
        if (isOutside(s, now.braces.straps)) {
            return UNKNOWN;
        }
        switch (what) {
            case 0: return now.braces.owner[s];
            case 1: return now.braces.matter[s];
            case 2: return now.braces.direction[s];
            case 3: return now.braces.notch[s];
            case 4: return now.braces.strain[s];
            case 5: return now.braces.fate[s];
            default: return OUTSIDE;
        }
    }

    // ---- deeds

    public int put(int t) {
        if (isOutside(t, MATTERS)) {
            return OUTSIDE;
        }
        if (!assembly.stands()) {
            return NOT;
        }
        if (now.braces.puts >= COUNT_LIMIT) {
            return FULL;
        }
        past.remember(now.braces);
        return now.putMatter(t) ? 1 : 0;
    }

    public int letOut(int s) {
        if (isOutside(s, now.braces.straps)) {
            return UNKNOWN;
        }
        if (!now.braces.holds(s)) {
            return NOT;
        }
        past.remember(now.braces);
        now.braces.loosen(s);
        return now.braces.notch[s];
    }

    public int letGo(int s) {
        if (isOutside(s, now.braces.straps)) {
            return UNKNOWN;
        }
        if (!now.braces.holds(s)) {
            return NOT;
        }
        past.remember(now.braces);
        now.braces.fate[s] = LET_GO;
        return now.braces.notch[s];
    }

    public int say(int m, int t, boolean isFor, int notch) {
        if (isOutside(m, assembly.members)) {
            return UNKNOWN;
        }
        if (isOutside(t, MATTERS) || notch < 1 || notch > MOST_NOTCHES) {
            return OUTSIDE;
        }
        if (now.braces.straps >= MOST_STRAPS) {
            return FULL;
        }
        past.remember(now.braces);
        now.braces.button(m, t, isFor ? FOR : AGAINST, notch);
        return now.braces.straps - 1;
    }

    public int session() {
        if (!assembly.stands()) {
            return NOT;
        }
        if (now.braces.sessions >= COUNT_LIMIT) {
            return FULL;
        }
        past.remember(now.braces);
        now.endSession();
        return now.braces.sessions;
    }

    public int drift(int n) {
        if (n < 1 || n > MOST_TIMES) {
            return OUTSIDE;
        }
        if (!assembly.stands()) {
            return NOT;
        }
        if (now.braces.puts >= COUNT_LIMIT || now.braces.sessions >= COUNT_LIMIT) {
            return FULL;
        }
        for (int time = 0; time < n; time++) {
            past.remember(now.braces);
            doByDraws();
        }
        return now.braces.twangs;
    }

    public int undo(int n) {
        if (n < 1 || n > MOST_UNDONE) {
            return OUTSIDE;
        }
        if (n > past.count) {
            return NOT;
        }
        past.recall(n, now.braces);
        return now.braces.puts;
    }

    // ---- tried

    public int goes(int m, int t, int what) {
        if (isOutside(m, assembly.members)) {
            return UNKNOWN;
        }
        if (isOutside(t, MATTERS) || isOutside(what, 2)) {
            return OUTSIDE;
        }
        now.division.take(t);
        return what == 0 ? now.division.way[m] : now.division.pull[m] + OFFSET;
    }

    public int matter(int t, int what) {
        if (isOutside(t, MATTERS)) {
            return OUTSIDE;
        }
        switch (what) {
            case 0: return now.marginOn(t) > 0 ? 1 : 0;
            case 1: return now.marginOn(t) + OFFSET;
            case 2: return now.setOfCreaking(t);
            case 3: return trial.fewestToPass(t);
            case 4: return trial.firstTwang(t);
            default: return OUTSIDE;
        }
    }

    public int agenda(int set, int what) {
        if (isOutside(set, MATTER_SETS) || Integer.bitCount(set) > MOST_ON_AGENDA || isOutside(what, 2)) {
            return OUTSIDE;
        }
        trial.findAgenda(set);
        return what == 0 ? trial.mostPassed : trial.bestFigures;
    }

    public int power(int m, int t) {
        if (isOutside(m, assembly.members)) {
            return UNKNOWN;
        }
        if (isOutside(t, MATTERS)) {
            return OUTSIDE;
        }
        return trial.ordersTurnedBy(m, t);
    }

    public int quiet(int n, int q) {
        if (isOutside(n, MOST_NIGHTS + 1) || isOutside(q, HUNDRED + 1)) {
            return OUTSIDE;
        }
        long odds = BILLION;
        for (int night = 0; night < n; night++) {
            odds = odds * q / HUNDRED;
        }
        return (int) odds;
    }

    // ---- what is seen

    public int see(int t, int went) {
        if (isOutside(t, MATTERS) || isOutside(went, WAYS)) {
            return OUTSIDE;
        }
        if (papers.seen >= MOST_SEEN) {
            return FULL;
        }
        papers.addSeen(t, went);
        return papers.seen;
    }

    public int couldBe() {
        return papers.setThatFits(now);
    }

    public int next() {
        return papers.bestToPut(now);
    }

    public int write(int m, int t, int went) {
        if (isOutside(m, assembly.members)) {
            return UNKNOWN;
        }
        if (isOutside(t, MATTERS) || isOutside(went, WAYS)) {
            return OUTSIDE;
        }
        if (papers.entries >= MOST_ENTRIES) {
            return FULL;
        }
        papers.addEntry(m, t, went);
        return papers.entries;
    }

    public int judge() {
        return papers.firstWrong(now);
    }

    public int tear() {
        int both = papers.seen + papers.entries;
        papers.clear();
        return both;
    }

    // ---- images

    public int seed(int v) {
        if (v < 0) {
            return OUTSIDE;
        }
        int before = currentSeed;
        currentSeed = v;
        return before;
    }

    public int keep(int i) {
        if (isOutside(i, IMAGES)) {
            return UNKNOWN;
        }
        images[i].copyFrom(now.braces);
        imageSeeds[i] = currentSeed;
        isKept[i] = true;
        past.clear();
        return 1;
    }

    public int goBack(int i) {
        if (isOutside(i, IMAGES)) {
            return UNKNOWN;
        }
        if (!isKept[i]) {
            return NOT;
        }
        now.braces.copyFrom(images[i]);
        currentSeed = imageSeeds[i];
        past.clear();
        return 1;
    }

    private void doByDraws() {
        int deed = drawOf(8);
        int t = drawOf(MATTERS);
        if (deed <= 4) {
            now.putMatter(t);
        } else if (deed == 7) {
            now.endSession();
        } else if (now.braces.straps > 0) {
            int s = drawOf(now.braces.straps);
            if (now.braces.holds(s)) {
                now.braces.loosen(s);
            }
        }
    }

    private int drawOf(int n) {
        // Java's wrap-around leaves the low 31 bits right, so the mask is the remainder by 2 to the 31.
        currentSeed = (currentSeed * 1103515245 + 12345) & 0x7fffffff;
        return n > 0 ? currentSeed / 65536 % n : 0;
    }

    private static boolean isOutside(int value, int count) {
        return value < 0 || value >= count;
    }

    private static boolean isIn(int set, int k) {
        return (set >> k & 1) == 1;
    }

    /** What the text tells and no deed changes. */
    private static final class House {
        int q;
        int members;
        final int[] kind;
        final int[] side;
        final int[] would;

        House() {
            q = 0;
            members = 0;
            kind = new int[MOST_MEMBERS];
            side = new int[MOST_MEMBERS];
            would = new int[MOST_MEMBERS];
        }

        boolean stands() {
            return q > 0;
        }

        void clear() {
            q = 0;
            members = 0;
        }

        void copyFrom(House other) {
            q = other.q;
            members = other.members;
            System.arraycopy(other.kind, 0, kind, 0, MOST_MEMBERS);
            System.arraycopy(other.side, 0, side, 0, MOST_MEMBERS);
            System.arraycopy(other.would, 0, would, 0, MOST_MEMBERS);
        }
    }

    /** All that deeds change: what is undone, and what an image keeps. */
    private static final class Braces {
        final int[] weight;
        int straps;
        final int[] owner;
        final int[] matter;
        final int[] direction;
        final int[] notch;
        final int[] strain;
        final int[] fate;
        int puts;
        int passed;
        int twangs;
        int sessions;

        Braces() {
            weight = new int[MOST_MEMBERS];
            owner = new int[MOST_STRAPS];
            matter = new int[MOST_STRAPS];
            direction = new int[MOST_STRAPS];
            notch = new int[MOST_STRAPS];
            strain = new int[MOST_STRAPS];
            fate = new int[MOST_STRAPS];
        }

        void clear() {
            straps = 0;
            puts = 0;
            passed = 0;
            twangs = 0;
            sessions = 0;
        }

        void copyFrom(Braces other) {
            straps = other.straps;
            puts = other.puts;
            passed = other.passed;
            twangs = other.twangs;
            sessions = other.sessions;
            System.arraycopy(other.weight, 0, weight, 0, MOST_MEMBERS);
            System.arraycopy(other.owner, 0, owner, 0, MOST_STRAPS);
            System.arraycopy(other.matter, 0, matter, 0, MOST_STRAPS);
            System.arraycopy(other.direction, 0, direction, 0, MOST_STRAPS);
            System.arraycopy(other.notch, 0, notch, 0, MOST_STRAPS);
            System.arraycopy(other.strain, 0, strain, 0, MOST_STRAPS);
            System.arraycopy(other.fate, 0, fate, 0, MOST_STRAPS);
        }

        void button(int m, int t, int way, int notches) {
            if (straps >= MOST_STRAPS) {
                return;
            }
            owner[straps] = m;
            matter[straps] = t;
            direction[straps] = way;
            notch[straps] = notches;
            strain[straps] = 0;
            fate[straps] = HOLDING;
            straps++;
        }

        void loosen(int s) {
            notch[s]--;
            if (notch[s] == 0) {
                fate[s] = LET_GO;
            }
        }

        /** A strap that there is not does not hold: who asks this has looked at the number, too. */
        boolean holds(int s) {
            return s >= 0 && s < straps && fate[s] == HOLDING;
        }

        int setOfHolding() {
            int set = 0;
            for (int s = 0; s < straps; s++) {
                if (holds(s)) {
                    set |= 1 << s;
                }
            }
            return set;
        }

        int setHoldingOf(int m) {
            int set = 0;
            for (int s = 0; s < straps; s++) {
                if (holds(s) && owner[s] == m) {
                    set |= 1 << s;
                }
            }
            return set;
        }

        int clashesOf(int m) {
            int clashes = 0;
            for (int t = 0; t < MATTERS; t++) {
                clashes += Integer.bitCount(setSaid(m, t, FOR)) * Integer.bitCount(setSaid(m, t, AGAINST));
            }
            return clashes;
        }

        /** On each matter one of the two ways must go whole, so the lesser of the two is best on its own. */
        int freedOf(int m) {
            int freed = 0;
            for (int t = 0; t < MATTERS; t++) {
                freed |= lesserSet(setSaid(m, t, FOR), setSaid(m, t, AGAINST));
            }
            return freed;
        }

        private int setSaid(int m, int t, int way) {
            int set = 0;
            for (int s = 0; s < straps; s++) {
                if (holds(s) && owner[s] == m && matter[s] == t && direction[s] == way) {
                    set |= 1 << s;
                }
            }
            return set;
        }

        private static int lesserSet(int a, int b) {
            int more = Integer.bitCount(a) - Integer.bitCount(b);
            if (more == 0) {
                return Math.min(a, b);
            }
            return more < 0 ? a : b;
        }
    }

    /** How members would go on one matter: it tells of the latest take() alone. */
    private static final class Division {
        private final House house;
        private final Braces braces;
        private int subject;
        final int[] pull;
        final int[] load;
        final boolean[] isHanging;
        private final int[] ownWay;
        final int[] way;
        final int[] votes;

        Division(House house, Braces braces) {
            this.house = house;
            this.braces = braces;
            subject = 0;
            pull = new int[MOST_MEMBERS];
            load = new int[MOST_MEMBERS];
            isHanging = new boolean[MOST_MEMBERS];
            ownWay = new int[MOST_MEMBERS];
            way = new int[MOST_MEMBERS];
            votes = new int[MOST_MEMBERS];
        }

        void take(int t) {
            for (int m = 0; m < house.members; m++) {
                takeOne(m, t, 0);
            }
        }

        /** The straps of the set loose are taken as if they had been let go. */
        void takeOne(int m, int t, int loose) {
            subject = t;
            pull[m] = 0;
            load[m] = 0;
            for (int s = 0; s < braces.straps; s++) {
                if (braces.holds(s) && braces.owner[s] == m && !isIn(loose, s)) {
                    load[m] += braces.notch[s];
                    pull[m] += pullBy(s);
                }
            }
            isHanging[m] = load[m] > braces.weight[m];
            // a bit of the set is the way itself: 1 for it, 0 against
            ownWay[m] = house.would[m] >> subject & 1;
            way[m] = wayOf(m);
            votes[m] = votesOf(m);
        }

        private int pullBy(int s) {
            if (braces.matter[s] != subject) {
                return 0;
            }
            return braces.direction[s] == FOR ? braces.notch[s] : -braces.notch[s];
        }

        private int wayOf(int m) {
            if (pull[m] != 0) {
                return pull[m] > 0 ? FOR : AGAINST;
            }
            return isHanging[m] ? AWAY : ownWay[m];
        }

        boolean isHeld(int m) {
            return way[m] != AWAY && way[m] != ownWay[m];
        }

        private int votesOf(int m) {
            if (way[m] == AWAY) {
                return 0;
            }
            return house.kind[m] == FOUNDER && isHanging[m] ? 2 : 1;
        }

        /** Votes for it are above 0, votes against it below. */
        int gainBy(int m) {
            return way[m] == FOR ? votes[m] : -votes[m];
        }

        int margin() {
            int margin = 0;
            for (int m = 0; m < house.members; m++) {
                margin += gainBy(m);
            }
            return margin;
        }

        int votesOfSet(int set) {
            int sum = 0;
            for (int m = 0; m < house.members; m++) {
                if (isIn(set, m)) {
                    sum += votes[m];
                }
            }
            return sum;
        }

        int setThatGoes(int wanted) {
            int set = 0;
            for (int m = 0; m < house.members; m++) {
                if (way[m] == wanted) {
                    set |= 1 << m;
                }
            }
            return set;
        }

        boolean isOn(int s) {
            return braces.holds(s) && braces.matter[s] == subject;
        }

        /** What the strap would be strained by, were the matter put. */
        int strainOn(int s) {
            if (!isOn(s)) {
                return 0;
            }
            int m = braces.owner[s];
            if (isOutside(m, house.members) || way[m] == AWAY) {
                return 0;
            }
            if (braces.direction[s] != way[m]) {
                return 2;
            }
            return isHeld(m) ? strainByKind(m) : 0;
        }

        private int strainByKind(int m) {
            switch (house.kind[m]) {
                case OLD: return 2;
                case ON_TOES: return isHanging[m] ? 1 : 0;
                default: return 1;
            }
        }
    }

    /** The house with its braces as they are, or as they are tried. */
    private static final class Sitting {
        final House house;
        final Braces braces;
        final Division division;

        Sitting(House house) {
            this.house = house;
            braces = new Braces();
            division = new Division(house, braces);
        }

        /** All straps strain ahead of the first that gives, by the division as it was taken. */
        boolean putMatter(int t) {
            division.take(t);
            boolean passes = division.margin() > 0;
            for (int s = 0; s < braces.straps; s++) {
                braces.strain[s] += division.strainOn(s);
            }
            for (int s = 0; s < braces.straps; s++) {
                if (division.isOn(s) && braces.strain[s] >= house.q * braces.notch[s]) {
                    braces.fate[s] = GAVE;
                    braces.twangs++;
                }
            }
            braces.puts++;
            if (passes) {
                braces.passed++;
            }
            return passes;
        }

        void endSession() {
            for (int m = 0; m < house.members; m++) {
                if (house.kind[m] == OLD) {
                    braces.weight[m] = Math.max(1, braces.weight[m] - 1);
                }
            }
            for (int s = 0; s < braces.straps; s++) {
                braces.strain[s] /= 2;
            }
            braces.sessions++;
        }

        int marginOn(int t) {
            division.take(t);
            return division.margin();
        }

        int setOfMembers() {
            return (1 << house.members) - 1;
        }

        int setOfPassing() {
            int set = 0;
            for (int t = 0; t < MATTERS; t++) {
                if (marginOn(t) > 0) {
                    set |= 1 << t;
                }
            }
            return set;
        }

        int setOfHanging() {
            division.take(0);
            int set = 0;
            for (int m = 0; m < house.members; m++) {
                if (division.isHanging[m]) {
                    set |= 1 << m;
                }
            }
            return set;
        }

        int setOfHeldOn(int m) {
            int set = 0;
            for (int t = 0; t < MATTERS; t++) {
                division.take(t);
                if (division.isHeld(m)) {
                    set |= 1 << t;
                }
            }
            return set;
        }

        int setOfCreaking(int t) {
            division.take(t);
            int set = 0;
            for (int s = 0; s < braces.straps; s++) {
                if (division.strainOn(s) > 0) {
                    set |= 1 << s;
                }
            }
            return set;
        }

        int sideHeldMost() {
            // whichever the matter, the load is of all the straps that hold
            division.take(0);
            int more = 0;
            for (int m = 0; m < house.members; m++) {
                more += house.side[m] == 1 ? division.load[m] : -division.load[m];
            }
            return more > 0 ? 1 : 0;
        }
    }

    /** What is tried: the sitting that is stays as it is, for all that changes is the other one. */
    private static final class Trial {
        private static final int MOST_GAIN = 2;
        private static final int GAINS = 2 * MOST_GAIN + 1;
        private static final int MOST_MARGIN = MOST_GAIN * MOST_MEMBERS;
        private static final int MARGINS = 2 * MOST_MARGIN + 1;
        private static final int NEVER = 1 << 20;

        private final Sitting now;
        private final Sitting tried;
        private final int[] priceOfMargin;
        private final int[] joinedPrice;
        private final int[] priceOfGain;
        int mostPassed;
        int bestFigures;

        Trial(Sitting now, Sitting tried) {
            this.now = now;
            this.tried = tried;
            priceOfMargin = new int[MARGINS];
            joinedPrice = new int[MARGINS];
            priceOfGain = new int[GAINS];
            mostPassed = 0;
            bestFigures = 0;
        }

        /**
         * No member's straps pull at another, so the members are priced one by one.
         * A price is the number of straps times STRAP_SETS and their set: the lesser price is
         * the fewer straps and, of like ones, the lesser set, and prices of two members add.
         */
        int fewestToPass(int t) {
            fill(priceOfMargin, NEVER);
            priceOfMargin[MOST_MARGIN] = 0;
            for (int m = 0; m < now.house.members; m++) {
                priceGains(m, t);
                joinGains();
            }
            int least = NEVER;
            for (int i = MOST_MARGIN + 1; i < MARGINS; i++) {
                least = Math.min(least, priceOfMargin[i]);
            }
            return least == NEVER ? NONE : least % STRAP_SETS;
        }

        private void priceGains(int m, int t) {
            fill(priceOfGain, NEVER);
            int own = now.braces.setHoldingOf(m);
            int sets = 1 << Integer.bitCount(own);
            int loose = 0;
            for (int i = 0; i < sets; i++) {
                now.division.takeOne(m, t, loose);
                int gain = now.division.gainBy(m) + MOST_GAIN;
                int price = Integer.bitCount(loose) * STRAP_SETS + loose;
                if (!isOutside(gain, GAINS)) {
                    priceOfGain[gain] = Math.min(priceOfGain[gain], price);
                }
                loose = subsetBehind(loose, own);
            }
        }

        private void joinGains() {
            fill(joinedPrice, NEVER);
            for (int i = 0; i < MARGINS; i++) {
                for (int gain = 0; gain < GAINS; gain++) {
                    int sum = i + gain - MOST_GAIN;
                    if (priceOfMargin[i] < NEVER && priceOfGain[gain] < NEVER && !isOutside(sum, MARGINS)) {
                        joinedPrice[sum] = Math.min(joinedPrice[sum], priceOfMargin[i] + priceOfGain[gain]);
                    }
                }
            }
            System.arraycopy(joinedPrice, 0, priceOfMargin, 0, MARGINS);
        }

        int firstTwang(int t) {
            tried.braces.copyFrom(now.braces);
            int before = now.braces.twangs;
            for (int time = 1; time <= MOST_PUTS_TRIED; time++) {
                tried.putMatter(t);
                if (tried.braces.twangs > before) {
                    return time;
                }
            }
            return NONE;
        }

        /** The orders come with their figures rising, so the first of the best is the least. */
        void findAgenda(int set) {
            mostPassed = NONE;
            bestFigures = 0;
            int size = Integer.bitCount(set);
            int orders = ordersOf(size);
            for (int rank = 0; rank < orders; rank++) {
                tryAgenda(set, size, rank);
            }
        }

        private void tryAgenda(int set, int size, int rank) {
            tried.braces.copyFrom(now.braces);
            int left = set;
            int rest = rank;
            int figures = 0;
            int passed = 0;
            for (int behind = size - 1; behind >= 0; behind--) {
                int orders = ordersOf(behind);
                int place = orders > 0 ? rest / orders : 0;
                int t = matterAt(left, place);
                rest -= place * orders;
                left &= ~(1 << t);
                figures = figures * 10 + t + 1;
                if (tried.putMatter(t)) {
                    passed++;
                }
            }
            if (passed > mostPassed) {
                mostPassed = passed;
                bestFigures = figures;
            }
        }

        private static int matterAt(int set, int place) {
            int ahead = 0;
            for (int t = 0; t < MATTERS; t++) {
                if (isIn(set, t)) {
                    if (ahead == place) {
                        return t;
                    }
                    ahead++;
                }
            }
            return 0;
        }

        /** Who stands ahead of him matters, not how they stand: so sets are gone through, not orders. */
        int ordersTurnedBy(int m, int t) {
            now.division.take(t);
            if (now.division.way[m] != FOR) {
                return 0;
            }
            int all = now.division.votesOfSet(now.setOfMembers());
            int his = now.division.votes[m];
            int others = now.division.setThatGoes(FOR) & ~(1 << m);
            int sets = 1 << Integer.bitCount(others);
            int orders = 0;
            int ahead = 0;
            for (int i = 0; i < sets; i++) {
                int votes = now.division.votesOfSet(ahead);
                if (2 * votes <= all && 2 * (votes + his) > all) {
                    orders += ordersOf(Integer.bitCount(ahead)) * ordersOf(Integer.bitCount(others & ~ahead));
                }
                ahead = subsetBehind(ahead, others);
            }
            return orders;
        }

        private static int ordersOf(int n) {
            return isOutside(n, ORDERS.length) ? 0 : ORDERS[n];
        }

        /** The next greater subset of the whole (behind the whole itself, the empty one). */
        private static int subsetBehind(int subset, int whole) {
            return (subset - whole) & whole;
        }

        private static void fill(int[] row, int value) {
            for (int i = 0; i < row.length; i++) {
                row[i] = value;
            }
        }
    }

    /** What was so ahead of each of the latest deeds; the oldest makes room. */
    private static final class Past {
        private final Braces[] rows;
        private int deeds;
        int count;

        Past() {
            rows = new Braces[MOST_UNDONE];
            for (int i = 0; i < MOST_UNDONE; i++) {
                rows[i] = new Braces();
            }
            deeds = 0;
            count = 0;
        }

        void clear() {
            count = 0;
        }

        void remember(Braces braces) {
            rows[Math.floorMod(deeds, MOST_UNDONE)].copyFrom(braces);
            deeds++;
            count = Math.min(count + 1, MOST_UNDONE);
        }

        void recall(int n, Braces braces) {
            if (n < 1 || n > count) {
                return;
            }
            deeds -= n;
            count -= n;
            braces.copyFrom(rows[Math.floorMod(deeds, MOST_UNDONE)]);
        }
    }

    /** What is seen of one unknown member, and the book of how members go. */
    private static final class Papers {
        int seen;
        private final int[] seenMatter;
        private final int[] seenWay;
        int entries;
        private final int[] entryMember;
        private final int[] entryMatter;
        private final int[] entryWay;

        Papers() {
            seen = 0;
            seenMatter = new int[MOST_SEEN];
            seenWay = new int[MOST_SEEN];
            entries = 0;
            entryMember = new int[MOST_ENTRIES];
            entryMatter = new int[MOST_ENTRIES];
            entryWay = new int[MOST_ENTRIES];
        }

        void clear() {
            seen = 0;
            entries = 0;
        }

        void addSeen(int t, int way) {
            if (seen >= MOST_SEEN) {
                return;
            }
            seenMatter[seen] = t;
            seenWay[seen] = way;
            seen++;
        }

        void addEntry(int m, int t, int way) {
            if (entries >= MOST_ENTRIES) {
                return;
            }
            entryMember[entries] = m;
            entryMatter[entries] = t;
            entryWay[entries] = way;
            entries++;
        }

        int setThatFits(Sitting now) {
            int set = now.setOfMembers();
            for (int i = 0; i < seen; i++) {
                now.division.take(seenMatter[i]);
                set &= now.division.setThatGoes(seenWay[i]);
            }
            return set;
        }

        int bestToPut(Sitting now) {
            int set = setThatFits(now);
            int best = NONE;
            int leastPart = Integer.bitCount(set);
            for (int t = 0; t < MATTERS; t++) {
                now.division.take(t);
                int part = greatestPart(set, now.division);
                if (part < leastPart) {
                    leastPart = part;
                    best = t;
                }
            }
            return best;
        }

        private static int greatestPart(int set, Division division) {
            int greatest = 0;
            for (int way = 0; way < WAYS; way++) {
                greatest = Math.max(greatest, Integer.bitCount(set & division.setThatGoes(way)));
            }
            return greatest;
        }

        int firstWrong(Sitting now) {
            for (int i = 0; i < entries; i++) {
                now.division.take(entryMatter[i]);
                int m = entryMember[i];
                if (!isOutside(m, now.house.members) && now.division.way[m] != entryWay[i]) {
                    return i;
                }
            }
            return NONE;
        }
    }

    /** Reads the text into a house and braces of its own, so that a fault changes nothing else. */
    private static final class Reader {
        private static final int CANNOT_STAND = 1, OUT_OF_BOUNDS = 2, ONE_TOO_MANY = 3;

        private final int[] letters;
        private int length;
        private int at;
        private int faultNumber;
        int faultLetter;
        final House house;
        final Braces braces;

        Reader(int[] letters) {
            this.letters = letters;
            length = 0;
            at = 0;
            faultNumber = 0;
            faultLetter = NONE;
            house = new House();
            braces = new Braces();
        }

        /** Answers the number of the first fault, 0 if there is none. */
        int readText(int letterCount) {
            length = Math.min(letterCount, letters.length);
            at = 0;
            faultNumber = 0;
            faultLetter = NONE;
            house.clear();
            braces.clear();
            skipBlanks();
            for (int clause = 0; clause < MOST_LETTERS && at < length && faultNumber == 0; clause++) {
                readClause(at);
                skipBlanks();
            }
            return faultNumber;
        }

        private void readClause(int wordAt) {
            int word = letters[wordAt];
            at = wordAt + 1;
            if (word == 'q') {
                readStrains(wordAt);
            } else if (word == 'm' && house.stands()) {
                readMember(wordAt);
            } else if (word == 's' && house.stands()) {
                readStrap(wordAt);
            } else {
                blame(CANNOT_STAND, wordAt);
            }
        }

        private void readStrains(int wordAt) {
            if (house.stands()) {
                blame(ONE_TOO_MANY, wordAt);
                return;
            }
            int q = readNumber(1, MOST_STRAINS);
            readEnd();
            if (faultNumber == 0) {
                house.q = q;
            }
        }

        private void readMember(int wordAt) {
            int m = house.members;
            if (m >= MOST_MEMBERS) {
                blame(ONE_TOO_MANY, wordAt);
                return;
            }
            house.kind[m] = readNumber(0, KINDS - 1);
            house.side[m] = readNumber(0, SIDES - 1);
            braces.weight[m] = readNumber(1, MOST_WEIGHT);
            house.would[m] = readNumber(0, MATTER_SETS - 1);
            readEnd();
            house.members++;
        }

        private void readStrap(int wordAt) {
            if (braces.straps >= MOST_STRAPS) {
                blame(ONE_TOO_MANY, wordAt);
                return;
            }
            int m = readNumber(0, house.members - 1);
            int t = readNumber(0, MATTERS - 1);
            int way = readNumber(AGAINST, FOR);
            int notches = readNumber(1, MOST_NOTCHES);
            readEnd();
            if (faultNumber == 0) {
                braces.button(m, t, way, notches);
            }
        }

        private int readNumber(int least, int most) {
            skipBlanks();
            int first = at;
            int value = 0;
            while (at < length && isFigure(letters[at])) {
                // figures beyond the third are a fault already: the value need not grow by them
                if (at - first < MOST_FIGURES) {
                    value = value * 10 + letters[at] - '0';
                }
                at++;
            }
            if (at == first) {
                blame(CANNOT_STAND, first);
            } else if (at - first > MOST_FIGURES || value < least || value > most) {
                blame(OUT_OF_BOUNDS, first);
            }
            return value;
        }

        private void readEnd() {
            skipBlanks();
            if (at >= length || letters[at] != ';') {
                blame(CANNOT_STAND, at);
                return;
            }
            at++;
        }

        private void skipBlanks() {
            while (at < length && letters[at] == ' ') {
                at++;
            }
        }

        private static boolean isFigure(int letter) {
            return letter >= '0' && letter <= '9';
        }

        /** Reading goes from left to right, so the first that is blamed is the one to tell. */
        private void blame(int number, int letter) {
            if (faultNumber == 0) {
                faultNumber = number;
                faultLetter = letter;
            }
        }
    }
}
