public final class StatueRelief {
    public static final int NONE = -1;

    private static final int NO_NUMBER = -1;
    private static final int NO_SUCH = -2;
    private static final int NOT_NOW = -3;
    private static final int NO_ROOM = -5;
    private static final int NO_TEXT = -6;

    private static final int MEN_MOST = 7;
    private static final int HOLD_MOST = 9;
    private static final int LOOK_MOST = 63;
    private static final int FEATURES = 6;
    private static final int TIRED_MOST = 99;
    private static final int HELD_MOST = 99;
    private static final int HOLDS_MOST = 99;
    private static final int PLATES_MOST = 6;
    private static final int LAWS_MOST = 6;
    private static final int IMAGES = 2;
    private static final int UNDO_MOST = 16;
    private static final int TAPE_MOST = 400;
    private static final int FED = 20;
    private static final int LATER_MOST = 60;
    private static final int MOMENT_MOST = 12;
    private static final int ROTA_MOST = 5;
    private static final int FEW_MOST = 20;
    private static final int FEW_MEN_MOST = 99;
    private static final long ALL_PARTS = 1_000_000_000_000L;
    private static final int SEED_MOST = 1_000_000;
    private static final int YEARS_MOST = 60;
    // More than any row of reliefs is NOTICED by: what the first row found is held against.
    private static final int EYES_BEYOND = 1_000_000;

    private static final int HOUR = 0;
    private static final int SNEEZES = 1;
    private static final int WEATHER = 2;
    private static final int EYES = 3;
    private static final int[] TERMS_MOST = {999, 10, 9, 99};

    private static final int CLAUSES_MOST = 12;
    private static final int PARTS_MOST = 50;
    private static final int BRACKETS_MOST = 8;
    private static final int NUMBER_MOST = 1000;
    private static final int TIMES_MOST = 20;
    private static final int VALUE_MOST = 1_000_000_000;

    // The kinds of CLAUSES, numbered as they stand in the lists of words below; of either language the last has no SUM.
    private static final int TIRES = 0;
    private static final int RESTS = 1;
    private static final int NOTICES = 2;
    private static final int BARS = 3;
    private static final int RELIEVE = 0;
    private static final int SNEEZE = 1;
    private static final int PARDON = 2;
    private static final int PASS = 3;
    private static final int WITHOUT_SUM = 3;

    private static final String LAW_KINDS = "tires rests notices bars";
    private static final String ORDER_KINDS = "relieve sneeze pardon pass";
    private static final String LAW_WORDS = "man hold tired held other unlike hour weather";
    private static final String ORDER_WORDS = "hour done latest up held fit tired";
    // "tired" is last among the words of ORDERS, so that each MAN's has a place of its own from here on.
    private static final int TIRED_WORD = 6;
    private static final int WORDS_MOST = TIRED_WORD + MEN_MOST;

    // A step of a SUM or a TEST: what to do in its low four bits, with what above them.
    private static final int STEP_BITS = 4;
    private static final int STEP_MASK = 15;
    private static final int STOP = 0;
    private static final int NUMBER = 1;
    private static final int WORD = 2;
    private static final int PLUS = 3;
    private static final int MINUS = 4;
    private static final int TIMES = 5;
    private static final int OVER = 6;
    private static final int LEFT = 7;
    private static final int LESS = 8;
    private static final int MORE = 9;
    private static final int SAME = 10;
    private static final int NOT = 11;
    private static final int OR = 12;
    private static final int AND = 13;

    private final Standing now = new Standing();
    private final Book book = new Book();
    private final Post post = new Post(book);
    private final Desk desk = new Desk(now, post);
    private final Rota rotas = new Rota(post);
    private final Pairs pairs = new Pairs(post);
    private final Standing paper = new Standing();
    private final Standing drawnStanding = new Standing();
    private boolean anyDrawn;
    private final Standing[] imageStandings = new Standing[IMAGES];
    private final Book[] imageBooks = new Book[IMAGES];
    private final int[] tape = new int[TAPE_MOST];
    private int tapeLength;
    private final Reader reader = new Reader(tape, desk.text);
    private final long[] chances = new long[FEW_MOST];
    private int pigeonCount;
    private int faultPlace = NONE;
    private final int[] refusals = new int[1 - NO_TEXT];
    private int latestRefusal;

    public StatueRelief() {
    }

    public int man(int hold, int look) {
        if (!canBeMan(hold, look)) {
            return refused(NO_NUMBER);
        }
        if (now.men >= MEN_MOST) {
            return refused(NO_ROOM);
        }
        desk.past.clear();
        return accepted(now.add(hold, look));
    }

    public int of(int man, int what) {
        if (!now.isMan(man)) {
            return NONE;
        }
        switch (what) {
            case 0: return now.hold[man];
            case 1: return now.look[man];
            case 2: return now.tired[man];
            case 3: return bit(now.isCashiered(man));
            case 4: return bit(now.up == man);
            case 5: return post.told(book.inForce(), TIRES, now, man, NONE);
            case 6: return post.told(book.inForce(), RESTS, now, man, NONE);
            case 7: return post.told(book.inForce(), BARS, now, man, NONE);
            case 8: return bit(post.can(RELIEVE, now, man));
            default: return NONE;
        }
    }

    public int two(int up, int down, int what) {
        if (!areTwo(up, down)) {
            return NONE;
        }
        if (what == 0) {
            return now.unlike(up, down);
        }
        return what == 1 ? post.told(book.inForce(), NOTICES, now, up, down) : NONE;
    }

    public int terms(int what, int value) {
        if (what < 0 || what >= TERMS_MOST.length || value < 0 || value > TERMS_MOST[what]) {
            return refused(NO_NUMBER);
        }
        int was = now.terms[what];
        now.terms[what] = value;
        desk.past.clear();
        return accepted(was);
    }

    public int feed(int a, int b, int c, int d, int e) {
        if (tapeLength + FED > TAPE_MOST) {
            return NONE;
        }
        putOnTape(a);
        putOnTape(b);
        putOnTape(c);
        putOnTape(d);
        putOnTape(e);
        return tapeLength;
    }

    public int end(int n) {
        if (n < 0 || n > tapeLength) {
            return NONE;
        }
        tapeLength = n;
        return n;
    }

    public int row() {
        if (tapeLength == 0) {
            return refused(NO_TEXT);
        }
        int came = 0;
        int flown = 0;
        for (int at = 0; at < tapeLength; at += 2) {
            boolean whole = at + 1 < tapeLength;
            if (whole && now.men < MEN_MOST && canBeMan(tape[at], tape[at + 1])) {
                now.add(tape[at], tape[at + 1]);
                came++;
            } else {
                flown++;
            }
        }
        tapeLength = 0;
        pigeonCount = flown;
        desk.past.clear();
        return accepted(came);
    }

    public int pigeons() {
        return pigeonCount;
    }

    public int law() {
        int length = tapeLength;
        tapeLength = 0;
        if (book.count >= LAWS_MOST) {
            return refused(NO_ROOM);
        }
        faultPlace = reader.faultOf(length, book.laws[book.count], false);
        if (faultPlace != NONE) {
            return refused(NO_TEXT);
        }
        book.count++;
        return accepted(book.count - 1);
    }

    public int orders() {
        int length = tapeLength;
        tapeLength = 0;
        desk.stoppedAt = NONE;
        faultPlace = reader.faultOf(length, desk.text, true);
        if (faultPlace != NONE) {
            return refused(NO_TEXT);
        }
        return settled(desk.run());
    }

    public int fault() {
        return faultPlace;
    }

    public int stopped() {
        return desk.stoppedAt;
    }

    public int force(int law) {
        if (!book.isLawOrNone(law)) {
            return refused(NO_SUCH);
        }
        int was = book.force;
        book.force = law;
        return accepted(was);
    }

    public int relieve(int man) {
        return settled(desk.act(RELIEVE, man));
    }

    public int sneeze(int man) {
        return settled(desk.act(SNEEZE, man));
    }

    public int pardon(int man) {
        return settled(desk.act(PARDON, man));
    }

    public int pass() {
        return settled(desk.act(PASS, NONE));
    }

    public int undo() {
        if (desk.past.count == 0) {
            return refused(NOT_NOW);
        }
        return accepted(desk.past.takeBack(now));
    }

    public int holds(int man) {
        if (!now.isMan(man)) {
            return NONE;
        }
        paper.copyFrom(now);
        if (paper.up != man) {
            paper.up = man;
            paper.held = 0;
        }
        for (int n = 0; n < HOLDS_MOST; n++) {
            if (post.wouldShake(paper)) {
                return n;
            }
            post.hour(paper);
        }
        return HOLDS_MOST;
    }

    public int later(int n, int what) {
        if (n < 0 || n > LATER_MOST || what < 0 || what > now.men) {
            return NONE;
        }
        paper.copyFrom(now);
        for (int i = 0; i < n; i++) {
            post.hour(paper);
        }
        return what == 0 ? paper.up : paper.tired[what - 1];
    }

    public int moment(int man, int what) {
        if (!now.isMan(man) || what < 0 || what > 1) {
            return NONE;
        }
        int moment = NONE;
        int least = NONE;
        paper.copyFrom(now);
        for (int n = 0; n <= MOMENT_MOST; n++) {
            if (post.can(RELIEVE, paper, man)) {
                int eyes = post.told(book.inForce(), NOTICES, paper, man, paper.up);
                if (moment == NONE || eyes < least) {
                    moment = n;
                    least = eyes;
                }
            }
            post.hour(paper);
        }
        return what == 0 ? moment : least;
    }

    public int rota(int n, int i) {
        if (n < 1 || n > ROTA_MOST || i < NONE || i >= n) {
            return NONE;
        }
        rotas.plan(now, n);
        if (!rotas.found) {
            return NONE;
        }
        return i == NONE ? rotas.leastEyes : rotas.leastRow[i];
    }

    public int order(int i) {
        if (i < NONE || i >= now.fit()) {
            return NONE;
        }
        pairs.arrange(now);
        return i == NONE ? pairs.leastEyes : pairs.leastRow[i];
    }

    public int chain(int from, int to, int i) {
        if (!now.isMan(from) || !now.isMan(to) || i < NONE) {
            return NONE;
        }
        pairs.measure(now, to);
        int length = pairs.steps[from];
        if (i == NONE) {
            return length;
        }
        return i < length ? pairs.along(now, from, i) : NONE;
    }

    public int groups(int h, int man) {
        if (h < 0 || h > FEATURES) {
            return NONE;
        }
        if (man == NONE) {
            return now.groupCount(h);
        }
        return now.isMan(man) ? now.groupOf(h, man) : NONE;
    }

    public int likest(int man) {
        if (!now.isMan(man)) {
            return NONE;
        }
        int likest = NONE;
        for (int other = 0; other < now.men; other++) {
            if (other != man && (likest == NONE || now.unlike(man, other) < now.unlike(man, likest))) {
                likest = other;
            }
        }
        return likest;
    }

    public int plate(int feature, int is) {
        if (feature < 0 || feature >= FEATURES || is < 0 || is > 1) {
            return refused(NO_NUMBER);
        }
        if (now.plates >= PLATES_MOST) {
            return refused(NO_ROOM);
        }
        if (is == 1) {
            now.plateHas |= 1 << feature;
        } else {
            now.plateLacks |= 1 << feature;
        }
        now.plates++;
        return accepted(now.plates);
    }

    public int forget() {
        int were = now.plates;
        now.plates = 0;
        now.plateHas = 0;
        now.plateLacks = 0;
        return were;
    }

    public int canBe() {
        return now.possible();
    }

    public int take(int what) {
        int possible = now.possible();
        if (possible == 0 || what < 0 || what > 1) {
            return NONE;
        }
        int best = 0;
        for (int feature = 1; feature < FEATURES; feature++) {
            if (now.leftAtMost(possible, feature) < now.leftAtMost(possible, best)) {
                best = feature;
            }
        }
        return what == 0 ? best : now.leftAtMost(possible, best);
    }

    public long few(int k, int n) {
        if (k < 1 || k > FEW_MOST || n < 0 || n > FEW_MEN_MOST) {
            return NONE;
        }
        long sneezing = now.terms[SNEEZES];
        long rest = 10 - sneezing;
        for (int j = 0; j < k; j++) {
            chances[j] = j == 0 ? ALL_PARTS : 0;
        }
        for (int man = 0; man < n; man++) {
            // From the top down, so that each part is still as it was ahead of this man when it is shared out.
            for (int j = k - 1; j >= 0; j--) {
                long oneMore = j > 0 ? chances[j - 1] * sneezing / 10 : 0;
                chances[j] = chances[j] * rest / 10 + oneMore;
            }
        }
        long together = 0;
        for (int j = 0; j < k; j++) {
            together += chances[j];
        }
        return together;
    }

    public int compare(int law, int up, int down) {
        if (!book.isLawOrNone(law) || !areTwo(up, down)) {
            return NONE;
        }
        return post.told(book.lawOrNone(law), NOTICES, now, up, down);
    }

    public int years(int seed, int n) {
        if (seed < 0 || seed > SEED_MOST || n < 1 || n > YEARS_MOST) {
            return refused(NO_NUMBER);
        }
        if (now.men == 0) {
            return refused(NOT_NOW);
        }
        drawnStanding.copyFrom(now);
        anyDrawn = true;
        return accepted(live(drawnStanding, seed, n));
    }

    public int drawn(int k, int what) {
        if (!anyDrawn || !drawnStanding.isMan(k)) {
            return NONE;
        }
        switch (what) {
            case 0: return drawnStanding.tired[k];
            case 1: return bit(drawnStanding.isCashiered(k));
            case 2: return k == 0 ? drawnStanding.up : NONE;
            default: return NONE;
        }
    }

    public int image(int k) {
        if (k < 0 || k >= IMAGES) {
            return refused(NO_NUMBER);
        }
        if (imageStandings[k] == null || imageBooks[k] == null) {
            imageStandings[k] = new Standing();
            imageBooks[k] = new Book();
        }
        imageStandings[k].copyFrom(now);
        imageBooks[k].copyFrom(book);
        return accepted(0);
    }

    public int back(int k) {
        if (k < 0 || k >= IMAGES) {
            return refused(NO_NUMBER);
        }
        if (imageStandings[k] == null || imageBooks[k] == null) {
            return refused(NO_SUCH);
        }
        now.copyFrom(imageStandings[k]);
        book.copyFrom(imageBooks[k]);
        desk.past.clear();
        return accepted(0);
    }

    public int count(int what) {
        switch (what) {
            case 0: return now.men;
            case 1: return now.fit();
            case 2: return now.up;
            case 3: return now.held;
            case 4: return now.plates;
            case 5: return book.count;
            case 6: return desk.past.count;
            case 7: return tapeLength;
            case 8: return refusals[-NO_NUMBER];
            case 9: return refusals[-NO_SUCH];
            case 10: return refusals[-NOT_NOW];
            case 11: return refusals[-NO_ROOM];
            case 12: return refusals[-NO_TEXT];
            case 13: return book.force;
            case 14: return now.terms[HOUR];
            case 15: return now.terms[SNEEZES];
            case 16: return now.terms[WEATHER];
            case 17: return now.terms[EYES];
            default: return NONE;
        }
    }

    public int status() {
        return latestRefusal;
    }

    private static boolean canBeMan(int hold, int look) {
        return hold >= 1 && hold <= HOLD_MOST && look >= 0 && look <= LOOK_MOST;
    }

    private static int bit(boolean so) {
        return so ? 1 : 0;
    }

    private boolean areTwo(int up, int down) {
        return now.isMan(up) && now.isMan(down) && up != down;
    }

    private void putOnTape(int number) {
        for (int shift = 24; shift >= 0 && tapeLength < TAPE_MOST; shift -= 8) {
            tape[tapeLength] = number >>> shift & 255;
            tapeLength++;
        }
    }

    private int live(Standing standing, int seed, int n) {
        int s = seed;
        int shook = 0;
        for (int i = 0; i < n && standing.men > 0 && post.can(PASS, standing, NONE); i++) {
            s = nextDraw(s);
            int man = s % standing.men;
            s = nextDraw(s);
            int deed = deedOf(s % 8);
            if (deed != NONE && post.can(deed, standing, man)) {
                post.move(deed, standing, man);
            }
            shook += post.hour(standing);
        }
        return shook;
    }

    private static int nextDraw(int s) {
        return (s * 1103 + 12345) % 1_000_003;
    }

    private static int deedOf(int draw) {
        switch (draw) {
            case 5: return SNEEZE;
            case 6: return PARDON;
            case 7: return NONE;
            default: return RELIEVE;
        }
    }

    private int settled(int result) {
        return result < 0 ? refused(result) : accepted(result);
    }

    private int accepted(int result) {
        latestRefusal = 0;
        // Every change goes through here, so no plan outlives what it was made for.
        rotas.plannedHours = 0;
        pairs.looked = false;
        pairs.arranged = false;
        return result;
    }

    private int refused(int by) {
        latestRefusal = by;
        if (-by >= 0 && -by < refusals.length) {
            refusals[-by]++;
        }
        return by;
    }

    /** The MEN, who is UP, the TERMS and the PLATES: all that an IMAGE keeps but the LAWS. */
    private static final class Standing {
        final int[] hold = new int[MEN_MOST];
        final int[] look = new int[MEN_MOST];
        final int[] tired = new int[MEN_MOST];
        final int[] terms = new int[TERMS_MOST.length];
        int men;
        int cashiered;
        int up = NONE;
        int held;
        int plates;
        int plateHas;
        int plateLacks;

        Standing() {
            terms[SNEEZES] = 1;
            terms[EYES] = 2;
        }

        void copyFrom(Standing other) {
            System.arraycopy(other.hold, 0, hold, 0, MEN_MOST);
            System.arraycopy(other.look, 0, look, 0, MEN_MOST);
            System.arraycopy(other.terms, 0, terms, 0, terms.length);
            men = other.men;
            plates = other.plates;
            plateHas = other.plateHas;
            plateLacks = other.plateLacks;
            copyMoving(other);
        }

        /** What a relief, a sneeze, a pardon, an HOUR can change. */
        void copyMoving(Standing other) {
            System.arraycopy(other.tired, 0, tired, 0, MEN_MOST);
            cashiered = other.cashiered;
            up = other.up;
            held = other.held;
            terms[HOUR] = other.terms[HOUR];
        }

        boolean isMan(int man) {
            return man >= 0 && man < men;
        }

        boolean isCashiered(int man) {
            return (cashiered >> man & 1) == 1;
        }

        int fit() {
            return men - Integer.bitCount(cashiered);
        }

        int add(int newHold, int newLook) {
            if (men >= MEN_MOST) {
                return NONE;
            }
            hold[men] = newHold;
            look[men] = newLook;
            tired[men] = 0;
            men++;
            return men - 1;
        }

        int unlike(int one, int other) {
            return Integer.bitCount(look[one] ^ look[other]);
        }

        int groupOf(int h, int man) {
            int group = 1 << man;
            // Each round reaches one MAN further at least, so as many rounds as MEN reach all.
            for (int round = 0; round < men; round++) {
                for (int one = 0; one < men; one++) {
                    group |= (group >> one & 1) == 1 ? alike(h, one) : 0;
                }
            }
            return group;
        }

        private int alike(int h, int man) {
            int alike = 0;
            for (int other = 0; other < men; other++) {
                alike |= unlike(man, other) <= h ? 1 << other : 0;
            }
            return alike;
        }

        int groupCount(int h) {
            int groups = 0;
            for (int man = 0; man < men; man++) {
                // A group is counted at its lowest MAN alone.
                int lower = groupOf(h, man) & (1 << man) - 1;
                groups += lower == 0 ? 1 : 0;
            }
            return groups;
        }

        int possible() {
            int possible = 0;
            for (int man = 0; man < men; man++) {
                boolean fits = (look[man] & plateHas) == plateHas && (look[man] & plateLacks) == 0;
                possible |= fits ? 1 << man : 0;
            }
            return possible;
        }

        int leftAtMost(int possible, int feature) {
            int having = 0;
            for (int man = 0; man < men; man++) {
                having += possible >> man & look[man] >> feature & 1;
            }
            return Math.max(having, Integer.bitCount(possible) - having);
        }
    }

    /** A TEXT that was read: its CLAUSES, their SUMS and TESTS as steps for the Machine. */
    private static final class Program {
        // 50 PARTS with what joins and ends them are 100 steps; of "not" the 300 bytes left hold fewer than 100.
        static final int STEPS_MOST = 200;
        final int[] steps;
        final int[] kind;
        final int[] sumAt;
        final int[] testAt;
        final int[] times;
        int clauses;
        int length;

        Program(int clausesMost, int stepsMost) {
            steps = new int[stepsMost];
            kind = new int[clausesMost];
            sumAt = new int[clausesMost];
            testAt = new int[clausesMost];
            times = new int[clausesMost];
        }

        void copyFrom(Program other) {
            System.arraycopy(other.steps, 0, steps, 0, other.length);
            System.arraycopy(other.kind, 0, kind, 0, other.clauses);
            System.arraycopy(other.sumAt, 0, sumAt, 0, other.clauses);
            System.arraycopy(other.testAt, 0, testAt, 0, other.clauses);
            System.arraycopy(other.times, 0, times, 0, other.clauses);
            clauses = other.clauses;
            length = other.length;
        }

        boolean open(int newKind) {
            if (clauses >= kind.length) {
                return false;
            }
            kind[clauses] = newKind;
            sumAt[clauses] = NONE;
            testAt[clauses] = NONE;
            times[clauses] = 1;
            clauses++;
            return true;
        }

        boolean put(int step, int with) {
            if (length >= steps.length) {
                return false;
            }
            steps[length] = step | with << STEP_BITS;
            length++;
            return true;
        }

        /** An "or", an "and" at a place learns how many steps stand behind it that it may skip. */
        void closeSkip(int place) {
            if (place >= 0 && place < length) {
                steps[place] |= length - place - 1 << STEP_BITS;
            }
        }
    }

    /** The LAWS, and which one is in FORCE. */
    private static final class Book {
        final Program[] laws = new Program[LAWS_MOST];
        final Program withoutLaw = new Program(0, 0);
        int count;
        int force = NONE;

        Book() {
            for (int i = 0; i < LAWS_MOST; i++) {
                laws[i] = new Program(CLAUSES_MOST, Program.STEPS_MOST);
            }
        }

        void copyFrom(Book other) {
            for (int i = 0; i < other.count; i++) {
                laws[i].copyFrom(other.laws[i]);
            }
            count = other.count;
            force = other.force;
        }

        boolean isLawOrNone(int law) {
            return law >= NONE && law < count;
        }

        Program lawOrNone(int law) {
            return law >= 0 && law < count ? laws[law] : withoutLaw;
        }

        Program inForce() {
            return lawOrNone(force);
        }
    }

    /** Works out SUMS and TESTS (so is 1, not so 0). */
    private static final class Machine {
        // A level of brackets leaves three values waiting at most: a comparison's, a SUM's, a TERM's left side.
        private static final int STACK_MOST = 40;
        final int[] words = new int[WORDS_MOST];
        final int[] stack = new int[STACK_MOST];
        int top;
        int value;

        /** Whether it is not BROKEN; value has what it is then. */
        boolean works(Program program, int start) {
            top = 0;
            for (int at = Math.max(start, 0); at < program.length; at++) {
                int step = program.steps[at] & STEP_MASK;
                int with = program.steps[at] >> STEP_BITS;
                if (step == STOP) {
                    break;
                }
                if (step == NUMBER || step == WORD) {
                    if (top >= STACK_MOST || step == WORD && with >= WORDS_MOST) {
                        return false;
                    }
                    stack[top] = step == WORD ? words[with] : with;
                    top++;
                } else if (top == 0) {
                    return false;
                } else if (step == NOT) {
                    stack[top - 1] = 1 - stack[top - 1];
                } else if (step == OR || step == AND) {
                    if (stack[top - 1] == (step == OR ? 1 : 0)) {
                        at += with;
                    } else {
                        top--;
                    }
                } else if (!join(step)) {
                    return false;
                }
            }
            value = top > 0 ? stack[top - 1] : 0;
            return top > 0;
        }

        private boolean join(int step) {
            if (top < 2) {
                return false;
            }
            long one = stack[top - 2];
            long other = stack[top - 1];
            if (other == 0 && (step == OVER || step == LEFT)) {
                return false;
            }
            long result;
            switch (step) {
                case PLUS: result = one + other; break;
                case MINUS: result = one - other; break;
                case TIMES: result = one * other; break;
                case OVER: result = other == 0 ? 0 : one / other; break;
                case LEFT: result = other == 0 ? 0 : one % other; break;
                case LESS: result = one < other ? 1 : 0; break;
                case MORE: result = one > other ? 1 : 0; break;
                default: result = one == other ? 1 : 0; break;
            }
            if (result > VALUE_MOST || result < -VALUE_MOST) {
                return false;
            }
            top--;
            stack[top - 1] = (int) result;
            return true;
        }
    }

    /** What the LAW in FORCE tells, and what reliefs, sneezes, pardons, HOURS do to any Standing. */
    private static final class Post {
        private final Book book;
        private final Machine machine = new Machine();

        Post(Book book) {
            this.book = book;
        }

        /** By how much a MAN TIRES, RESTS, is NOTICED going UP for another one, or (1, 0) is BARRED. */
        int told(Program law, int kind, Standing standing, int man, int other) {
            if (kind == NOTICES && other == NONE) {
                return 0;
            }
            int unlike = other == NONE ? NONE : standing.unlike(man, other);
            setWords(standing, man, other, unlike);
            // From the last one, as it is the last that HOLDS that tells.
            for (int c = law.clauses - 1; c >= 0; c--) {
                if (law.kind[c] != kind) {
                    continue;
                }
                if (law.testAt[c] != NONE && !(machine.works(law, law.testAt[c]) && machine.value == 1)) {
                    continue;
                }
                if (kind == BARS) {
                    return 1;
                }
                if (machine.works(law, law.sumAt[c])) {
                    return Math.max(0, Math.min(machine.value, kind == NOTICES ? 99 : 9));
                }
            }
            if (kind == BARS) {
                return 0;
            }
            return kind == NOTICES ? unlike : 1;
        }

        private void setWords(Standing standing, int man, int other, int unlike) {
            int[] words = machine.words;
            words[0] = man;
            words[1] = standing.hold[man];
            words[2] = standing.tired[man];
            words[3] = standing.held;
            words[4] = other;
            words[5] = unlike;
            words[6] = standing.terms[HOUR];
            words[7] = standing.terms[WEATHER];
        }

        boolean can(int deed, Standing standing, int man) {
            if (deed == PASS) {
                return standing.terms[HOUR] < TERMS_MOST[HOUR];
            }
            if (deed != RELIEVE) {
                return standing.isCashiered(man) == (deed == PARDON);
            }
            return standing.up != man && !standing.isCashiered(man) && standing.tired[man] < standing.hold[man]
                    && told(book.inForce(), BARS, standing, man, NONE) == 0;
        }

        /** A relief, a sneeze, a pardon that can be: by how many EYES it is NOTICED, or how many are fit then. */
        int move(int deed, Standing standing, int man) {
            if (deed == RELIEVE) {
                int eyes = told(book.inForce(), NOTICES, standing, man, standing.up);
                goUp(standing, man);
                return eyes;
            }
            if (deed == SNEEZE) {
                cashier(standing, man);
            } else {
                standing.cashiered &= ~(1 << man);
                standing.tired[man] = 0;
            }
            return standing.fit();
        }

        void goUp(Standing standing, int man) {
            standing.up = man;
            standing.held = 0;
        }

        private void cashier(Standing standing, int man) {
            standing.cashiered |= 1 << man;
            if (standing.up == man) {
                goUp(standing, NONE);
            }
        }

        /** An HOUR: how many SHAKE. */
        int hour(Standing standing) {
            Program law = book.inForce();
            int up = standing.up;
            for (int man = 0; man < standing.men; man++) {
                int tired = standing.tired[man];
                if (man == up) {
                    tired = Math.min(TIRED_MOST, tired + told(law, TIRES, standing, man, NONE));
                } else {
                    tired = Math.max(0, tired - told(law, RESTS, standing, man, NONE));
                }
                standing.tired[man] = tired;
            }
            standing.terms[HOUR]++;
            if (!standing.isMan(up)) {
                return 0;
            }
            standing.held = Math.min(HELD_MOST, standing.held + 1);
            if (standing.tired[up] <= standing.hold[up]) {
                return 0;
            }
            cashier(standing, up);
            return 1;
        }

        /** Whether who is UP would SHAKE in the HOUR to come. */
        boolean wouldShake(Standing standing) {
            int up = standing.up;
            if (!standing.isMan(up)) {
                return false;
            }
            return standing.tired[up] + told(book.inForce(), TIRES, standing, up, NONE) > standing.hold[up];
        }
    }

    /** What can be undone. */
    private static final class Past {
        private static final int TIRED_AT = 5;
        private static final int WIDTH = TIRED_AT + MEN_MOST;
        private final int[] rows = new int[UNDO_MOST * WIDTH];
        int count;

        void clear() {
            count = 0;
        }

        void copyFrom(Past other) {
            System.arraycopy(other.rows, 0, rows, 0, rows.length);
            count = other.count;
        }

        void keep(int deed, Standing standing) {
            if (count >= UNDO_MOST) {
                System.arraycopy(rows, WIDTH, rows, 0, (UNDO_MOST - 1) * WIDTH);
                count = UNDO_MOST - 1;
            }
            int at = count * WIDTH;
            rows[at] = deed;
            rows[at + 1] = standing.up;
            rows[at + 2] = standing.held;
            rows[at + 3] = standing.cashiered;
            rows[at + 4] = standing.terms[HOUR];
            System.arraycopy(standing.tired, 0, rows, at + TIRED_AT, MEN_MOST);
            count++;
        }

        int takeBack(Standing standing) {
            if (count == 0) {
                return NONE;
            }
            count--;
            int at = count * WIDTH;
            standing.up = rows[at + 1];
            standing.held = rows[at + 2];
            standing.cashiered = rows[at + 3];
            standing.terms[HOUR] = rows[at + 4];
            System.arraycopy(rows, at + TIRED_AT, standing.tired, 0, MEN_MOST);
            return rows[at];
        }
    }

    /** Where what is done is done: by a call, or by ORDERS. */
    private static final class Desk {
        private final Standing now;
        private final Post post;
        private final Machine machine = new Machine();
        private final Standing ahead = new Standing();
        private final Past pastAhead = new Past();
        final Past past = new Past();
        final Program text = new Program(CLAUSES_MOST, Program.STEPS_MOST);
        private int done;
        private int latest;
        int stoppedAt = NONE;

        Desk(Standing now, Post post) {
            this.now = now;
            this.post = post;
        }

        int act(int deed, int man) {
            if (deed != PASS && !now.isMan(man)) {
                return NO_SUCH;
            }
            if (!post.can(deed, now, man)) {
                return NOT_NOW;
            }
            past.keep(deed, now);
            return deed == PASS ? post.hour(now) : post.move(deed, now, man);
        }

        int run() {
            ahead.copyFrom(now);
            pastAhead.copyFrom(past);
            done = 0;
            latest = NONE;
            for (int c = 0; c < text.clauses; c++) {
                for (int time = 0; time < text.times[c]; time++) {
                    if (!runOnce(c)) {
                        now.copyFrom(ahead);
                        past.copyFrom(pastAhead);
                        stoppedAt = c;
                        return NOT_NOW;
                    }
                }
            }
            return done;
        }

        private boolean runOnce(int c) {
            setWords();
            if (text.testAt[c] != NONE && !(machine.works(text, text.testAt[c]) && machine.value == 1)) {
                return true;
            }
            if (text.sumAt[c] != NONE && !machine.works(text, text.sumAt[c])) {
                return false;
            }
            int told = act(text.kind[c], text.sumAt[c] != NONE ? machine.value : NONE);
            if (told < 0) {
                return false;
            }
            if (text.kind[c] == RELIEVE) {
                latest = told;
            }
            done++;
            return true;
        }

        private void setWords() {
            int[] words = machine.words;
            words[0] = now.terms[HOUR];
            words[1] = done;
            words[2] = latest;
            words[3] = now.up;
            words[4] = now.held;
            words[5] = now.fit();
            for (int man = 0; man < MEN_MOST; man++) {
                words[TIRED_WORD + man] = man < now.men ? now.tired[man] : NONE;
            }
        }
    }

    /** Reads a TEXT of either language. Each part of the grammar is a method that tells whether it could go on. */
    private static final class Reader {
        private static final int NOTHING = 0;
        private static final int LETTERS = 1;
        private static final int DIGITS = 2;
        private static final int SIGN = 3;

        private final int[] text;
        private int length;
        private boolean isOrders;
        private Program program;
        private int at;
        private int behind;
        private int token;
        private int parts;

        Reader(int[] text, Program program) {
            this.text = text;
            this.program = program;
        }

        /** Where the FAULT is, or NONE. */
        int faultOf(int newLength, Program into, boolean orders) {
            length = Math.min(newLength, text.length);
            isOrders = orders;
            program = into;
            program.clauses = 0;
            program.length = 0;
            behind = 0;
            parts = 0;
            advance();
            for (int i = 0; i < CLAUSES_MOST && clause(); i++) {
                if (token == NOTHING) {
                    return NONE;
                }
                if (!isSign(';')) {
                    return at;
                }
                advance();
            }
            return at;
        }

        private boolean clause() {
            int kind = wordIn(isOrders ? ORDER_KINDS : LAW_KINDS);
            if (kind == NONE || !program.open(kind)) {
                return false;
            }
            int c = program.clauses - 1;
            advance();
            if (kind != WITHOUT_SUM) {
                program.sumAt[c] = program.length;
                if (!sum(0) || !program.put(STOP, 0)) {
                    return false;
                }
            }
            if (isOrders && wordIn("times") == 0) {
                advance();
                program.times[c] = numberOf(1, TIMES_MOST);
                if (program.times[c] == NONE) {
                    return false;
                }
                advance();
            }
            if (wordIn("if") == 0) {
                advance();
                program.testAt[c] = program.length;
                return test(0) && program.put(STOP, 0);
            }
            return true;
        }

        private boolean test(int depth) {
            boolean goesOn = both(depth);
            for (int i = 0; i < TAPE_MOST && goesOn && wordIn("or") == 0; i++) {
                advance();
                int skip = program.length;
                goesOn = program.put(OR, 0) && both(depth);
                program.closeSkip(skip);
            }
            return goesOn;
        }

        private boolean both(int depth) {
            boolean goesOn = plain(depth);
            for (int i = 0; i < TAPE_MOST && goesOn && wordIn("and") == 0; i++) {
                advance();
                int skip = program.length;
                goesOn = program.put(AND, 0) && plain(depth);
                program.closeSkip(skip);
            }
            return goesOn;
        }

        private boolean plain(int depth) {
            boolean turned = false;
            // A row of "not" is read here, not by recursion: nothing but the TAPE bounds its length.
            for (int i = 0; i < TAPE_MOST && wordIn("not") == 0; i++) {
                turned = !turned;
                advance();
            }
            if (isSign('(')) {
                if (depth >= BRACKETS_MOST) {
                    return false;
                }
                advance();
                if (!test(depth + 1) || !isSign(')')) {
                    return false;
                }
                advance();
            } else {
                if (!sum(depth)) {
                    return false;
                }
                int step = isSign('<') ? LESS : isSign('>') ? MORE : isSign('=') ? SAME : NONE;
                if (step == NONE) {
                    return false;
                }
                advance();
                if (!sum(depth) || !program.put(step, 0)) {
                    return false;
                }
            }
            return !turned || program.put(NOT, 0);
        }

        private boolean sum(int depth) {
            boolean goesOn = term(depth);
            for (int i = 0; i < TAPE_MOST && goesOn && (isSign('+') || isSign('-')); i++) {
                int step = isSign('+') ? PLUS : MINUS;
                advance();
                goesOn = term(depth) && program.put(step, 0);
            }
            return goesOn;
        }

        private boolean term(int depth) {
            boolean goesOn = part(depth);
            for (int i = 0; i < TAPE_MOST && goesOn && (isSign('*') || isSign('/') || isSign('%')); i++) {
                int step = isSign('*') ? TIMES : isSign('/') ? OVER : LEFT;
                advance();
                goesOn = part(depth) && program.put(step, 0);
            }
            return goesOn;
        }

        private boolean part(int depth) {
            if (isSign('[')) {
                if (depth >= BRACKETS_MOST) {
                    return false;
                }
                advance();
                if (!sum(depth + 1) || !isSign(']')) {
                    return false;
                }
                advance();
                return true;
            }
            if (parts >= PARTS_MOST) {
                return false;
            }
            parts++;
            return token == DIGITS ? number() : word();
        }

        private boolean number() {
            int number = numberOf(0, NUMBER_MOST);
            if (number == NONE || !program.put(NUMBER, number)) {
                return false;
            }
            advance();
            return true;
        }

        private boolean word() {
            int word = wordIn(isOrders ? ORDER_WORDS : LAW_WORDS);
            if (word == NONE) {
                return false;
            }
            advance();
            if (isOrders && word == TIRED_WORD) {
                int man = numberOf(0, MEN_MOST - 1);
                if (man == NONE) {
                    return false;
                }
                word += man;
                advance();
            }
            return program.put(WORD, word);
        }

        private void advance() {
            at = behind;
            while (at < length && text[at] == ' ') {
                at++;
            }
            token = kindAt(at);
            behind = token == NOTHING ? at : at + 1;
            while ((token == LETTERS || token == DIGITS) && behind < length && kindAt(behind) == token) {
                behind++;
            }
        }

        private int kindAt(int place) {
            if (place < 0 || place >= length) {
                return NOTHING;
            }
            int sign = text[place];
            if (sign >= 'a' && sign <= 'z') {
                return LETTERS;
            }
            return sign >= '0' && sign <= '9' ? DIGITS : SIGN;
        }

        private boolean isSign(char sign) {
            return token == SIGN && at >= 0 && at < length && text[at] == sign;
        }

        /** Which word of a list, its words a blank apart, the TOKEN is. */
        private int wordIn(String list) {
            if (token != LETTERS) {
                return NONE;
            }
            int which = 0;
            int place = at;
            boolean same = true;
            for (int i = 0; i < list.length(); i++) {
                char sign = list.charAt(i);
                if (sign == ' ') {
                    if (same && place == behind) {
                        return which;
                    }
                    which++;
                    place = at;
                    same = true;
                } else {
                    same = same && place < behind && text[place] == sign;
                    place++;
                }
            }
            return same && place == behind ? which : NONE;
        }

        private int numberOf(int low, int high) {
            if (token != DIGITS) {
                return NONE;
            }
            int number = 0;
            for (int i = at; i < behind && i < length; i++) {
                // Held below what would wrap around, and still beyond every bound.
                number = Math.min(number * 10 + text[i] - '0', 1_000_000);
            }
            return number >= low && number <= high ? number : NONE;
        }
    }

    /** The ROTA that is least NOTICED. */
    private static final class Rota {
        private final Post post;
        private final Standing[] standings = new Standing[ROTA_MOST];
        private final int[] row = new int[ROTA_MOST];
        final int[] leastRow = new int[ROTA_MOST];
        int leastEyes;
        boolean found;
        int plannedHours;

        Rota(Post post) {
            this.post = post;
            for (int i = 0; i < ROTA_MOST; i++) {
                standings[i] = new Standing();
            }
        }

        void plan(Standing now, int hours) {
            if (plannedHours == hours || hours < 1 || hours > ROTA_MOST) {
                return;
            }
            for (int i = 0; i < hours; i++) {
                standings[i].copyFrom(now);
            }
            plannedHours = hours;
            found = false;
            leastEyes = EYES_BEYOND;
            search(0, 0);
        }

        private void search(int level, int eyes) {
            if (level >= plannedHours) {
                found = true;
                leastEyes = eyes;
                System.arraycopy(row, 0, leastRow, 0, plannedHours);
                return;
            }
            Standing standing = standings[level];
            for (int man = 0; man < standing.men; man++) {
                int more = eyesFor(standing, man);
                // MEN are tried from the lowest on, so a row no less NOTICED than one found comes behind it.
                if (more == NONE || eyes + more >= leastEyes || shakes(standing, man)) {
                    continue;
                }
                row[level] = man;
                if (level + 1 < plannedHours) {
                    goOn(standing, man, standings[level + 1]);
                }
                search(level + 1, eyes + more);
            }
        }

        private int eyesFor(Standing standing, int man) {
            if (standing.up == man) {
                return 0;
            }
            if (!post.can(RELIEVE, standing, man)) {
                return NONE;
            }
            return post.told(post.book.inForce(), NOTICES, standing, man, standing.up);
        }

        private boolean shakes(Standing standing, int man) {
            int up = standing.up;
            int held = standing.held;
            standing.up = man;
            standing.held = up == man ? held : 0;
            boolean shakes = post.wouldShake(standing);
            standing.up = up;
            standing.held = held;
            return shakes;
        }

        private void goOn(Standing from, int man, Standing to) {
            to.copyMoving(from);
            if (to.up != man) {
                post.goUp(to, man);
            }
            post.hour(to);
        }
    }

    /** By how many EYES each MAN going UP for each other is NOTICED now: the ORDER and the CHAINS. */
    private static final class Pairs {
        private final Post post;
        private final int[] eyes = new int[MEN_MOST * MEN_MOST];
        boolean looked;
        private final int[] row = new int[MEN_MOST];
        final int[] leastRow = new int[MEN_MOST];
        int leastEyes;
        boolean arranged;
        final int[] steps = new int[MEN_MOST];

        Pairs(Post post) {
            this.post = post;
        }

        private void lookAtAll(Standing now) {
            if (looked) {
                return;
            }
            for (int down = 0; down < now.men; down++) {
                for (int up = 0; up < now.men; up++) {
                    eyes[down * MEN_MOST + up] = up == down ? 0
                            : post.told(post.book.inForce(), NOTICES, now, up, down);
                }
            }
            looked = true;
        }

        void arrange(Standing now) {
            if (arranged) {
                return;
            }
            lookAtAll(now);
            leastEyes = EYES_BEYOND;
            place(now, 0, now.cashiered, 0);
            arranged = true;
        }

        private void place(Standing now, int position, int gone, int noticed) {
            if (position >= now.fit() || position >= MEN_MOST) {
                leastEyes = noticed;
                System.arraycopy(row, 0, leastRow, 0, MEN_MOST);
                return;
            }
            for (int man = 0; man < now.men; man++) {
                boolean mustWait = position == 0 && now.up != NONE && now.up != man;
                if (mustWait || (gone >> man & 1) == 1) {
                    continue;
                }
                int more = position == 0 ? 0 : eyes[row[position - 1] * MEN_MOST + man];
                if (noticed + more < leastEyes) {
                    row[position] = man;
                    place(now, position + 1, gone | 1 << man, noticed + more);
                }
            }
        }

        /** How many MEN it takes from each one to a MAN. */
        void measure(Standing now, int to) {
            lookAtAll(now);
            for (int man = 0; man < MEN_MOST; man++) {
                steps[man] = man == to ? 0 : NONE;
            }
            for (int length = 1; length < now.men; length++) {
                for (int man = 0; man < now.men; man++) {
                    if (steps[man] == NONE && nextTo(now, man, length - 1) != NONE) {
                        steps[man] = length;
                    }
                }
            }
        }

        private int nextTo(Standing now, int man, int stepsLeft) {
            for (int next = 0; next < now.men; next++) {
                if (steps[next] == stepsLeft && eyes[man * MEN_MOST + next] <= now.terms[EYES]) {
                    return next;
                }
            }
            return NONE;
        }

        int along(Standing now, int from, int i) {
            int man = from;
            for (int step = 0; step <= i && now.isMan(man); step++) {
                man = nextTo(now, man, steps[man] - 1);
            }
            return man;
        }
    }
}
