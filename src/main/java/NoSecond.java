import java.util.Arrays;

/** An archipelago in which nobody may be second. README.md says how it is used. */
public final class NoSecond {

    public static final int NONE = -1;

    private static final int PEOPLE_MOST = 7;
    private static final int RACES = 4;
    private static final int TRADES = 10;
    private static final int STRENGTH_MOST = 9;
    private static final int HEAP_MOST = 999;
    private static final int SEEN_MOST = 6;
    private static final int LAWS_MOST = 6;
    private static final int IMAGES = 2;
    private static final int PAST_MOST = 16;
    private static final int SEED_MOST = 1000000;
    private static final int CENTURIES_MOST = 60;

    private static final int BY_NUMBER = -1;
    private static final int BY_NO_SUCH = -2;
    private static final int BY_WHAT_STANDS = -3;
    private static final int BY_NO_ROOM = -5;
    private static final int BY_TEXT = -6;

    private static final int RACE = 0;
    private static final int ENTER = 1;
    private static final int TAKE = 2;
    private static final int PASS = 3;

    private static final int RUNS = 0;
    private static final int TURNS = 1;
    private static final int WINS = 2;
    private static final int BARS = 3;

    private static final int TERM_YEAR = 0;
    private static final int TERM_TRIPS = 1;
    private static final int TERM_MOOD = 2;

    private final Reader reader = new Reader();
    private final Machine machine = new Machine();
    private final Isles isles = new Isles();
    private final Court court = new Court(isles, machine);
    private final Study study = new Study(court);
    private final Isles paper = new Isles();
    private final Court paperCourt = new Court(paper, machine);
    private final Isles[] images = new Isles[IMAGES];
    private final Past past = new Past();
    private final Past pastAhead = new Past();
    private final Moving movingAhead = new Moving();
    private final int[] refusals = new int[1 - BY_TEXT];
    private int refusedBy = 0;
    private int blotCount = 0;
    private int stoppedAt = NONE;
    private int done = 0;
    private int latest = NONE;

    public NoSecond() {
    }

    public int person(int trade, int parent) {
        if (!isTrade(trade) || parent != NONE && !isles.isPerson(parent)) {
            return refuse(BY_NUMBER);
        }
        if (isles.people >= PEOPLE_MOST) {
            return refuse(BY_NO_ROOM);
        }
        past.clear();
        return grant(isles.addPerson(trade, parent));
    }

    public int of(int person, int what) {
        if (!isles.isPerson(person)) {
            return NONE;
        }
        if (what == 3) {
            return isles.parent[person];
        }
        if (isRace(what - 4)) {
            return isles.strength[person * RACES + what - 4];
        }
        if (isRace(what - 8)) {
            return court.runsBy(isles.lawInForce(), person, what - 8);
        }
        if (isRace(what - 12)) {
            return court.isBarred(isles.lawInForce(), person, what - 12) ? 1 : 0;
        }
        return isles.now.told(person, what);
    }

    public int strength(int person, int race, int n) {
        if (!isRace(race) || n < 0 || n > STRENGTH_MOST) {
            return refuse(BY_NUMBER);
        }
        if (!isles.isPerson(person)) {
            return refuse(BY_NO_SUCH);
        }
        int at = person * RACES + race;
        int was = isles.strength[at];
        isles.strength[at] = n;
        return grant(was);
    }

    public int beats(int one, int other, int is) {
        if (one == other || is < 0 || is > 1) {
            return refuse(BY_NUMBER);
        }
        if (!isles.isPerson(one) || !isles.isPerson(other)) {
            return refuse(BY_NO_SUCH);
        }
        int was = isles.beaten[one] >> other & 1;
        isles.beaten[one] ^= (was ^ is) << other;
        return grant(was);
    }

    public int placed(int race, int what) {
        if (!isRace(race)) {
            return NONE;
        }
        int runners = court.lineUp(isles.lawInForce(), race);
        return what == 0 ? runners : court.at(what);
    }

    public int terms(int what, int value) {
        int most = what == TERM_YEAR ? HEAP_MOST : what == TERM_TRIPS ? 10 : what == TERM_MOOD ? 9 : NONE;
        if (value < 0 || value > most) {
            return refuse(BY_NUMBER);
        }
        int was = isles.term(what);
        isles.setTerm(what, value);
        past.clear();
        return grant(was);
    }

    public int feed(int a, int b, int c, int d, int e) {
        if (!reader.hasRoom(20)) {
            return NONE;
        }
        reader.addNumber(a);
        reader.addNumber(b);
        reader.addNumber(c);
        reader.addNumber(d);
        reader.addNumber(e);
        return reader.size;
    }

    public int end(int n) {
        if (n < 0 || n > reader.size) {
            return NONE;
        }
        reader.size = n;
        return n;
    }

    public int row() {
        if (reader.size == 0) {
            return refuse(BY_TEXT);
        }
        int told = 0;
        blotCount = 0;
        for (int at = 0; at < reader.size; at += 1 + RACES) {
            if (tellRow(at)) {
                told++;
            } else {
                blotCount++;
            }
        }
        reader.size = 0;
        return grant(told);
    }

    public int blots() {
        return blotCount;
    }

    public int law() {
        if (isles.lawCount >= LAWS_MOST) {
            reader.size = 0;
            return refuse(BY_NO_ROOM);
        }
        boolean isText = reader.readText(true);
        reader.size = 0;
        return isText ? grant(isles.addLaw(reader.code.kept())) : refuse(BY_TEXT);
    }

    public int orders() {
        stoppedAt = NONE;
        boolean isText = reader.readText(false);
        reader.size = 0;
        if (!isText) {
            return refuse(BY_TEXT);
        }
        movingAhead.set(isles.now);
        pastAhead.set(past);
        done = 0;
        latest = NONE;
        Code code = reader.code;
        for (int i = 0; i < code.clauses; i++) {
            for (int n = 0; n < code.times[i]; n++) {
                if (!obey(code, i)) {
                    stoppedAt = i;
                    isles.now.set(movingAhead);
                    past.set(pastAhead);
                    return refuse(BY_WHAT_STANDS);
                }
            }
        }
        return grant(done);
    }

    public int fault() {
        return reader.fault;
    }

    public int stopped() {
        return stoppedAt;
    }

    public int force(int law) {
        if (law != NONE && !isles.isLaw(law)) {
            return refuse(BY_NO_SUCH);
        }
        int was = isles.inForce;
        isles.inForce = law;
        return grant(was);
    }

    public int race(int race) {
        return answer(court.moved(RACE, race, past));
    }

    public int enter(int person) {
        return answer(court.moved(ENTER, person, past));
    }

    public int take(int person) {
        return answer(court.moved(TAKE, person, past));
    }

    public int pass() {
        return answer(court.moved(PASS, 0, past));
    }

    public int undo() {
        if (past.size == 0) {
            return refuse(BY_WHAT_STANDS);
        }
        return grant(past.bringBack(isles.now));
    }

    public int be(int person, int race, int place, int what) {
        if (!isles.isPerson(person) || !isRace(race) || place < 1 || place > PEOPLE_MOST || what < 0 || what > 1) {
            return NONE;
        }
        int changed = study.changedEntries(person, race, place);
        return what == 1 || changed == NONE ? changed : Integer.bitCount(changed);
    }

    public int seen(int race, int trade) {
        if (!isRace(race) || !isTrade(trade)) {
            return refuse(BY_NUMBER);
        }
        if (isles.seenCount >= SEEN_MOST) {
            return refuse(BY_NO_ROOM);
        }
        return grant(isles.addSeen(race, trade));
    }

    public int forget() {
        int was = isles.seenCount;
        isles.seenCount = 0;
        return was;
    }

    public int canBe() {
        return study.suspects();
    }

    public int look(int what) {
        if (what < 0 || what > 1) {
            return NONE;
        }
        int race = study.raceToWatch();
        return what == 0 || race == NONE ? race : study.leftMost;
    }

    public int ranking(int what) {
        if (what < 0 || what > isles.people) {
            return NONE;
        }
        int broken = study.rankAll();
        return what == 0 ? broken : study.list[what - 1];
    }

    public int circles() {
        return study.circleCount();
    }

    public int crowned(int what) {
        if (what < 0 || what > RACES) {
            return NONE;
        }
        int together = study.crownAll();
        return what == 0 ? together : study.list[what - 1];
    }

    public int heir(int i) {
        if (i < NONE) {
            return NONE;
        }
        int heirs = study.lineOfHeirs();
        if (i == NONE) {
            return heirs;
        }
        return i < heirs ? study.list[i] : NONE;
    }

    public long ladder(int n, int k) {
        if (n < 1 || n > Study.RUNGS_MOST || k < 1 || k > 5) {
            return NONE;
        }
        return study.waysUp(n, k);
    }

    public int never() {
        return study.neverSecond();
    }

    public long few(int k, int n) {
        if (k < 1 || k > Study.TRIPPED_MOST || n < 0 || n > 99) {
            return NONE;
        }
        return study.chanceOfFewer(k, n);
    }

    public int compare(int law, int race) {
        if (law != NONE && !isles.isLaw(law) || !isRace(race)) {
            return NONE;
        }
        court.lineUp(isles.lawAt(law), race);
        return court.at(1);
    }

    public int centuries(int seed, int n) {
        if (seed < 0 || seed > SEED_MOST || n < 1 || n > CENTURIES_MOST) {
            return refuse(BY_NUMBER);
        }
        if (isles.people == 0) {
            return refuse(BY_WHAT_STANDS);
        }
        paper.set(isles);
        int s = seed;
        int races = 0;
        for (int i = 0; i < n && paper.now.year < HEAP_MOST; i++) {
            int drawnPerson = nextDraw(s);
            int drawnRace = nextDraw(drawnPerson);
            s = nextDraw(drawnRace);
            int kind = s % 4 < 2 ? ENTER : s % 4 == 2 ? RACE : TAKE;
            int moved = paperCourt.moved(kind, kind == RACE ? drawnRace % 4 : drawnPerson % isles.people, null);
            if (kind == RACE && moved >= 0) {
                races++;
            }
            paperCourt.moved(PASS, 0, null);
        }
        return grant(races);
    }

    public int drawn(int person, int what) {
        return paper.isPerson(person) ? paper.now.told(person, what) : NONE;
    }

    public int image(int k) {
        if (k < 0 || k >= IMAGES) {
            return refuse(BY_NUMBER);
        }
        if (images[k] == null) {
            images[k] = new Isles();
        }
        images[k].set(isles);
        return grant(0);
    }

    public int back(int k) {
        if (k < 0 || k >= IMAGES) {
            return refuse(BY_NUMBER);
        }
        if (images[k] == null) {
            return refuse(BY_NO_SUCH);
        }
        isles.set(images[k]);
        past.clear();
        return grant(0);
    }

    public int count(int what) {
        switch (what) {
            case 0: return isles.people;
            case 1: return Integer.bitCount(isles.now.entered);
            case 2: return isles.now.gap;
            case 3: return isles.allPrizes();
            case 4: return isles.seenCount;
            case 5: return isles.lawCount;
            case 6: return past.size;
            case 7: return reader.size;
            case 8: return refusals[-BY_NUMBER];
            case 9: return refusals[-BY_NO_SUCH];
            case 10: return refusals[-BY_WHAT_STANDS];
            case 11: return refusals[-BY_NO_ROOM];
            case 12: return refusals[-BY_TEXT];
            case 13: return isles.inForce;
            case 14: return isles.term(TERM_YEAR);
            case 15: return isles.term(TERM_TRIPS);
            case 16: return isles.term(TERM_MOOD);
            default: return NONE;
        }
    }

    public int status() {
        return refusedBy;
    }

    private int refuse(int by) {
        refusedBy = by;
        if (by < 0 && by >= BY_TEXT) {
            refusals[-by]++;
        }
        return by;
    }

    private int grant(int told) {
        refusedBy = 0;
        return told;
    }

    private int answer(int moved) {
        return moved < 0 ? refuse(moved) : grant(moved);
    }

    private static boolean isRace(int race) {
        return race >= 0 && race < RACES;
    }

    private static boolean isTrade(int trade) {
        return trade >= 0 && trade < TRADES;
    }

    private static int nextDraw(int s) {
        return (int) ((s * 1103L + 12345L) % 1000003L);
    }

    /** False: the bytes from there on are a blot. */
    private boolean tellRow(int at) {
        int person = reader.byteAt(at);
        if (!isles.isPerson(person)) {
            return false;
        }
        for (int r = 0; r < RACES; r++) {
            int n = reader.byteAt(at + 1 + r);
            if (n < 0 || n > STRENGTH_MOST) {
                return false;
            }
        }
        for (int r = 0; r < RACES; r++) {
            isles.strength[person * RACES + r] = reader.byteAt(at + 1 + r);
        }
        return true;
    }

    /** False: this order can't be; one whose "if" is not so is left out and can be. */
    private boolean obey(Code code, int clause) {
        machine.setOrderWords(isles, done, latest);
        if (machine.worth(code, code.testFrom[clause], code.testTo[clause]) != 1) {
            return true;
        }
        long n = machine.worth(code, code.sumFrom[clause], code.testFrom[clause]);
        if (n == Machine.BROKEN) {
            return false;
        }
        int kind = code.kind[clause];
        int moved = court.moved(kind, (int) n, past);
        if (moved < 0) {
            return false;
        }
        done++;
        if (kind == RACE) {
            latest = moved;
        }
        return true;
    }

    /** What races, entries, takings and years change: so all that undo() has to bring back. */
    private static final class Moving {
        /** How many numbers it is, written into a row. */
        static final int WIDTH = 2 * PEOPLE_MOST + 3;

        final int[] trade = new int[PEOPLE_MOST];
        final int[] prizes = new int[PEOPLE_MOST];
        // As bits.
        int entered = 0;
        int gap = 0;
        int year = 0;

        void set(Moving from) {
            System.arraycopy(from.trade, 0, trade, 0, PEOPLE_MOST);
            System.arraycopy(from.prizes, 0, prizes, 0, PEOPLE_MOST);
            entered = from.entered;
            gap = from.gap;
            year = from.year;
        }

        void writeTo(int[] rows, int at) {
            if (at < 0 || at > rows.length - WIDTH) {
                return;
            }
            System.arraycopy(trade, 0, rows, at, PEOPLE_MOST);
            System.arraycopy(prizes, 0, rows, at + PEOPLE_MOST, PEOPLE_MOST);
            rows[at + WIDTH - 3] = entered;
            rows[at + WIDTH - 2] = gap;
            rows[at + WIDTH - 1] = year;
        }

        void readFrom(int[] rows, int at) {
            if (at < 0 || at > rows.length - WIDTH) {
                return;
            }
            System.arraycopy(rows, at, trade, 0, PEOPLE_MOST);
            System.arraycopy(rows, at + PEOPLE_MOST, prizes, 0, PEOPLE_MOST);
            entered = rows[at + WIDTH - 3];
            gap = rows[at + WIDTH - 2];
            year = rows[at + WIDTH - 1];
        }

        boolean isIn(int person) {
            return (entered >> person & 1) == 1;
        }

        int told(int person, int what) {
            if (what == 0) {
                return trade[person];
            }
            if (what == 1) {
                return prizes[person];
            }
            return what == 2 ? entered >> person & 1 : NONE;
        }

        void addPrizes(int person, int more) {
            prizes[person] = Math.min(HEAP_MOST, prizes[person] + more);
        }
    }

    /** The latest moves, each with what stood ahead of it; a ring, the oldest of which is let go. */
    private static final class Past {
        final int[] kind = new int[PAST_MOST];
        final int[] ahead = new int[PAST_MOST * Moving.WIDTH];
        int first = 0;
        int size = 0;

        void clear() {
            first = 0;
            size = 0;
        }

        void keep(int moveKind, Moving now) {
            if (size == PAST_MOST) {
                first = (first + 1) % PAST_MOST;
                size--;
            }
            int at = (first + size) % PAST_MOST;
            kind[at] = moveKind;
            now.writeTo(ahead, at * Moving.WIDTH);
            size++;
        }

        int bringBack(Moving now) {
            if (size == 0) {
                return NONE;
            }
            size--;
            int at = (first + size) % PAST_MOST;
            now.readFrom(ahead, at * Moving.WIDTH);
            return kind[at];
        }

        void set(Past from) {
            first = from.first;
            size = from.size;
            System.arraycopy(from.kind, 0, kind, 0, PAST_MOST);
            System.arraycopy(from.ahead, 0, ahead, 0, PAST_MOST * Moving.WIDTH);
        }
    }

    /** All that an image keeps. */
    private static final class Isles {
        final Moving now = new Moving();
        final int[] parent = new int[PEOPLE_MOST];
        final int[] strength = new int[PEOPLE_MOST * RACES];
        final int[] beaten = new int[PEOPLE_MOST];
        final int[] seenRace = new int[SEEN_MOST];
        final int[] seenTrade = new int[SEEN_MOST];
        // A law never changes once it is read, so that images may share it.
        final Code[] laws = new Code[LAWS_MOST];
        int people = 0;
        int seenCount = 0;
        int lawCount = 0;
        int inForce = NONE;
        int trips = 1;
        int mood = 0;

        void set(Isles from) {
            now.set(from.now);
            System.arraycopy(from.parent, 0, parent, 0, PEOPLE_MOST);
            System.arraycopy(from.strength, 0, strength, 0, PEOPLE_MOST * RACES);
            System.arraycopy(from.beaten, 0, beaten, 0, PEOPLE_MOST);
            System.arraycopy(from.seenRace, 0, seenRace, 0, SEEN_MOST);
            System.arraycopy(from.seenTrade, 0, seenTrade, 0, SEEN_MOST);
            for (int i = 0; i < LAWS_MOST; i++) {
                laws[i] = from.laws[i];
            }
            people = from.people;
            seenCount = from.seenCount;
            lawCount = from.lawCount;
            inForce = from.inForce;
            trips = from.trips;
            mood = from.mood;
        }

        boolean isPerson(int person) {
            return person >= 0 && person < people;
        }

        boolean isLaw(int n) {
            return n >= 0 && n < lawCount;
        }

        /** Null where there is no such law: then no clause is asked. */
        Code lawAt(int n) {
            return isLaw(n) ? laws[n] : null;
        }

        Code lawInForce() {
            return lawAt(inForce);
        }

        int addPerson(int trade, int parentOrNone) {
            if (people >= PEOPLE_MOST) {
                return NONE;
            }
            // All else is 0 here: nobody had this number yet, or back() has brought the time ahead of her.
            now.trade[people] = trade;
            parent[people] = parentOrNone;
            people++;
            return people - 1;
        }

        int addLaw(Code code) {
            if (lawCount >= LAWS_MOST) {
                return NONE;
            }
            laws[lawCount] = code;
            lawCount++;
            return lawCount - 1;
        }

        int addSeen(int race, int trade) {
            if (seenCount < SEEN_MOST) {
                seenRace[seenCount] = race;
                seenTrade[seenCount] = trade;
                seenCount++;
            }
            return seenCount;
        }

        int term(int what) {
            return what == TERM_YEAR ? now.year : what == TERM_TRIPS ? trips : mood;
        }

        void setTerm(int what, int value) {
            if (what == TERM_YEAR) {
                now.year = value;
            } else if (what == TERM_TRIPS) {
                trips = value;
            } else {
                mood = value;
            }
        }

        int allPrizes() {
            int all = 0;
            for (int p = 0; p < people; p++) {
                all += now.prizes[p];
            }
            return all;
        }
    }

    /** A text that was read: its clauses, and the steps by which a Machine finds their sums and tests. */
    private static final class Code {
        static final int CLAUSES_MOST = 12;

        static final int NUMBER = 0;
        static final int WORD = 1;
        static final int NOT = 2;
        static final int AND = 3;
        static final int OR = 4;
        static final int ADD = 5;
        static final int SUBTRACT = 6;
        static final int MULTIPLY = 7;
        static final int DIVIDE = 8;
        static final int REST = 9;
        static final int LESS = 10;
        static final int MORE = 11;
        static final int ALIKE = 12;

        final int[] kind;
        final int[] times;
        // A clause's sum is from sumFrom to testFrom, its test from there to testTo; either may be empty.
        final int[] sumFrom;
        final int[] testFrom;
        final int[] testTo;
        final int[] step;
        final int[] with;
        int clauses = 0;
        int steps = 0;

        Code(int clausesMost, int stepsMost) {
            int clauseRoom = Math.max(0, clausesMost);
            int stepRoom = Math.max(0, stepsMost);
            kind = new int[clauseRoom];
            times = new int[clauseRoom];
            sumFrom = new int[clauseRoom];
            testFrom = new int[clauseRoom];
            testTo = new int[clauseRoom];
            step = new int[stepRoom];
            with = new int[stepRoom];
        }

        void clear() {
            clauses = 0;
            steps = 0;
        }

        /** Where the step stands: so that land() finds it. */
        int add(int what, int withWhat) {
            if (steps >= step.length) {
                return NONE;
            }
            step[steps] = what;
            with[steps] = withWhat;
            steps++;
            return steps - 1;
        }

        /** From the step at a place, if it decides, one goes on behind all that is here now. */
        void land(int at) {
            if (at >= 0 && at < steps) {
                with[at] = steps;
            }
        }

        Code kept() {
            Code same = new Code(clauses, steps);
            System.arraycopy(kind, 0, same.kind, 0, clauses);
            System.arraycopy(times, 0, same.times, 0, clauses);
            System.arraycopy(sumFrom, 0, same.sumFrom, 0, clauses);
            System.arraycopy(testFrom, 0, same.testFrom, 0, clauses);
            System.arraycopy(testTo, 0, same.testTo, 0, clauses);
            System.arraycopy(step, 0, same.step, 0, steps);
            System.arraycopy(with, 0, same.with, 0, steps);
            same.clauses = clauses;
            same.steps = steps;
            return same;
        }
    }

    /** The tape, and how a text on it is read, token by token, into code. */
    private static final class Reader {
        static final int TAPE_MOST = 400;
        static final int PARTS_MOST = 50;
        static final int BRACKETS_MOST = 8;
        static final int NUMBER_MOST = 1000;
        static final int TIMES_MOST = 20;

        static final int IS_END = 0;
        static final int IS_WORD = 1;
        static final int IS_NUMBER = 2;
        static final int IS_SIGN = 3;

        // The order of the words is that of the kinds, and of the words that a Machine knows.
        static final String LAW_CLAUSES = "runs turns wins bars";
        static final String ORDER_CLAUSES = "race enter take pass";
        static final int WITHOUT_SUM = 3;
        static final String LAW_WORDS = "person race strength trade prizes place gap year mood";
        static final String ORDER_WORDS = "year done latest gap entered prizes trade";

        final int[] tape = new int[TAPE_MOST];
        final Code code = new Code(Code.CLAUSES_MOST, TAPE_MOST);
        int size = 0;
        int fault = NONE;
        boolean isLaw = false;
        int parts = 0;
        // The token that is looked at, and where the next one is sought.
        int token = IS_END;
        int tokenAt = 0;
        int next = 0;
        int number = 0;

        boolean hasRoom(int more) {
            return size + more <= TAPE_MOST;
        }

        void addNumber(int n) {
            for (int shift = 24; shift >= 0; shift -= 8) {
                if (size < TAPE_MOST) {
                    tape[size] = n >>> shift & 255;
                    size++;
                }
            }
        }

        /** NONE where the tape has no byte. */
        int byteAt(int at) {
            return at >= 0 && at < size && at < TAPE_MOST ? tape[at] : NONE;
        }

        boolean readText(boolean asLaw) {
            isLaw = asLaw;
            code.clear();
            parts = 0;
            fault = NONE;
            next = 0;
            step();
            for (int n = 0; n < Code.CLAUSES_MOST; n++) {
                if (!readClause(n)) {
                    return false;
                }
                if (token == IS_END) {
                    return true;
                }
                if (!isSign(';')) {
                    return stop();
                }
                step();
            }
            return stop();
        }

        private boolean readClause(int n) {
            int kind = wordOf(isLaw ? LAW_CLAUSES : ORDER_CLAUSES);
            if (kind == NONE || n < 0 || n >= Code.CLAUSES_MOST) {
                return stop();
            }
            step();
            code.kind[n] = kind;
            code.times[n] = 1;
            code.sumFrom[n] = code.steps;
            if (kind != WITHOUT_SUM && !readSum(0)) {
                return false;
            }
            code.testFrom[n] = code.steps;
            if (!isLaw && isWord("times")) {
                step();
                if (token != IS_NUMBER || number < 1 || number > TIMES_MOST) {
                    return stop();
                }
                code.times[n] = number;
                step();
            }
            if (isWord("if")) {
                step();
                if (!readTest(0)) {
                    return false;
                }
            }
            code.testTo[n] = code.steps;
            code.clauses = n + 1;
            return true;
        }

        private boolean readTest(int brackets) {
            if (!readBoth(brackets)) {
                return false;
            }
            for (int n = 0; n < TAPE_MOST && isWord("or"); n++) {
                step();
                int decides = code.add(Code.OR, 0);
                if (!readBoth(brackets)) {
                    return false;
                }
                code.land(decides);
            }
            return true;
        }

        private boolean readBoth(int brackets) {
            if (!readPlain(brackets)) {
                return false;
            }
            for (int n = 0; n < TAPE_MOST && isWord("and"); n++) {
                step();
                int decides = code.add(Code.AND, 0);
                if (!readPlain(brackets)) {
                    return false;
                }
                code.land(decides);
            }
            return true;
        }

        /** Many "not" behind one another are told apart by their number, so that none goes deeper. */
        private boolean readPlain(int brackets) {
            boolean isNot = false;
            for (int n = 0; n < TAPE_MOST && isWord("not"); n++) {
                step();
                isNot = !isNot;
            }
            if (isSign('(')) {
                if (brackets >= BRACKETS_MOST) {
                    return stop();
                }
                step();
                if (!readTest(brackets + 1)) {
                    return false;
                }
                if (!isSign(')')) {
                    return stop();
                }
                step();
            } else {
                if (!readSum(brackets)) {
                    return false;
                }
                int what = isSign('<') ? Code.LESS : isSign('>') ? Code.MORE : isSign('=') ? Code.ALIKE : NONE;
                if (what == NONE) {
                    return stop();
                }
                step();
                if (!readSum(brackets)) {
                    return false;
                }
                code.add(what, 0);
            }
            if (isNot) {
                code.add(Code.NOT, 0);
            }
            return true;
        }

        private boolean readSum(int brackets) {
            if (!readTerm(brackets)) {
                return false;
            }
            for (int n = 0; n < TAPE_MOST && (isSign('+') || isSign('-')); n++) {
                int what = isSign('+') ? Code.ADD : Code.SUBTRACT;
                step();
                if (!readTerm(brackets)) {
                    return false;
                }
                code.add(what, 0);
            }
            return true;
        }

        private boolean readTerm(int brackets) {
            if (!readPart(brackets)) {
                return false;
            }
            for (int n = 0; n < TAPE_MOST && (isSign('*') || isSign('/') || isSign('%')); n++) {
                int what = isSign('*') ? Code.MULTIPLY : isSign('/') ? Code.DIVIDE : Code.REST;
                step();
                if (!readPart(brackets)) {
                    return false;
                }
                code.add(what, 0);
            }
            return true;
        }

        private boolean readPart(int brackets) {
            if (!isSign('[')) {
                return readSinglePart();
            }
            if (brackets >= BRACKETS_MOST) {
                return stop();
            }
            step();
            if (!readSum(brackets + 1)) {
                return false;
            }
            if (!isSign(']')) {
                return stop();
            }
            step();
            return true;
        }

        private boolean readSinglePart() {
            boolean isNumber = token == IS_NUMBER && number <= NUMBER_MOST;
            int word = wordOf(isLaw ? LAW_WORDS : ORDER_WORDS);
            if (!isNumber && word == NONE || parts >= PARTS_MOST) {
                return stop();
            }
            parts++;
            if (isNumber) {
                code.add(Code.NUMBER, number);
                step();
                return true;
            }
            step();
            if (isLaw || word < Machine.ORDER_PRIZES) {
                code.add(Code.WORD, word);
                return true;
            }
            if (token != IS_NUMBER || number >= PEOPLE_MOST) {
                return stop();
            }
            code.add(Code.WORD, Machine.wordOfPerson(word, number));
            step();
            return true;
        }

        private boolean stop() {
            fault = tokenAt;
            return false;
        }

        /** Looks at the next token. */
        private void step() {
            int at = next;
            while (at < size && byteAt(at) == ' ') {
                at++;
            }
            tokenAt = at;
            next = at + 1;
            number = 0;
            if (at >= size) {
                token = IS_END;
                next = at;
            } else if (isLetter(byteAt(at))) {
                token = IS_WORD;
                while (next < size && isLetter(byteAt(next))) {
                    next++;
                }
            } else if (isDigit(byteAt(at))) {
                token = IS_NUMBER;
                number = byteAt(at) - '0';
                while (next < size && isDigit(byteAt(next))) {
                    // Held just beyond the greatest number, so that no row of digits wraps around.
                    number = Math.min(NUMBER_MOST + 1, number * 10 + byteAt(next) - '0');
                    next++;
                }
            } else {
                token = IS_SIGN;
            }
        }

        private static boolean isLetter(int c) {
            return c >= 'a' && c <= 'z';
        }

        private static boolean isDigit(int c) {
            return c >= '0' && c <= '9';
        }

        private boolean isSign(char sign) {
            return token == IS_SIGN && byteAt(tokenAt) == sign;
        }

        private boolean isWord(String word) {
            return wordOf(word) == 0;
        }

        /** Which of the words of a list the token is; NONE if it is none of them. */
        private int wordOf(String list) {
            if (token != IS_WORD) {
                return NONE;
            }
            int which = 0;
            int from = 0;
            for (int i = 0; i <= list.length(); i++) {
                if (i == list.length() || list.charAt(i) == ' ') {
                    if (isSame(list, from, i)) {
                        return which;
                    }
                    which++;
                    from = i + 1;
                }
            }
            return NONE;
        }

        private boolean isSame(String list, int from, int to) {
            int length = to - from;
            if (from < 0 || to > list.length() || length != next - tokenAt || tokenAt < 0 || next > TAPE_MOST) {
                return false;
            }
            for (int i = 0; i < length; i++) {
                if (tape[tokenAt + i] != list.charAt(from + i)) {
                    return false;
                }
            }
            return true;
        }
    }

    /** Finds what sums and tests are worth, by words that are set ahead. */
    private static final class Machine {
        static final long WORTH_MOST = 1000000000L;
        // Below all that two worths can be joined to.
        static final long BROKEN = -9000000000000000000L;

        // In orders the words from here on are asked of a person, so each has a row of seven.
        static final int ORDER_PRIZES = 5;
        static final int ORDER_TRADE = ORDER_PRIZES + PEOPLE_MOST;
        static final int WORDS_MOST = ORDER_TRADE + PEOPLE_MOST;

        final int[] words = new int[WORDS_MOST];
        // Every number or word of a text may wait here, and no more than fifty can be in one.
        final long[] stack = new long[Reader.PARTS_MOST];

        static int wordOfPerson(int word, int person) {
            return (word == ORDER_PRIZES ? ORDER_PRIZES : ORDER_TRADE) + person;
        }

        void setLawWords(Isles isles, int person, int race, int place) {
            words[0] = person;
            words[1] = race;
            words[2] = isles.strength[person * RACES + race];
            words[3] = isles.now.trade[person];
            words[4] = isles.now.prizes[person];
            words[5] = place;
            words[6] = isles.now.gap;
            words[7] = isles.now.year;
            words[8] = isles.mood;
        }

        void setOrderWords(Isles isles, int done, int latest) {
            words[0] = isles.now.year;
            words[1] = done;
            words[2] = latest;
            words[3] = isles.now.gap;
            words[4] = Integer.bitCount(isles.now.entered);
            for (int p = 0; p < PEOPLE_MOST; p++) {
                words[ORDER_PRIZES + p] = isles.isPerson(p) ? isles.now.prizes[p] : NONE;
                words[ORDER_TRADE + p] = isles.isPerson(p) ? isles.now.trade[p] : NONE;
            }
        }

        /** What is not written stands: 1. A test is worth 1 or 0. */
        long worth(Code code, int from, int to) {
            if (from >= to) {
                return 1;
            }
            int top = 0;
            int at = Math.max(0, from);
            int behind = Math.min(to, code.steps);
            for (int n = from; n < to && at < behind; n++) {
                int step = code.step[at];
                int with = code.with[at];
                at++;
                if (step == Code.NUMBER || step == Code.WORD) {
                    if (top >= stack.length) {
                        return BROKEN;
                    }
                    stack[top] = step == Code.NUMBER ? with : wordWorth(with);
                    top++;
                } else if (step <= Code.OR) {
                    if (top < 1) {
                        return BROKEN;
                    }
                    boolean isSo = stack[top - 1] == 1;
                    if (step == Code.NOT) {
                        stack[top - 1] = isSo ? 0 : 1;
                    } else if (isSo == (step == Code.OR)) {
                        at = Math.max(at, with);
                    } else {
                        top--;
                    }
                } else {
                    if (top < 2) {
                        return BROKEN;
                    }
                    top--;
                    stack[top - 1] = joined(step, stack[top - 1], stack[top]);
                    if (stack[top - 1] == BROKEN) {
                        return BROKEN;
                    }
                }
            }
            return top == 1 ? stack[0] : BROKEN;
        }

        private long wordWorth(int word) {
            return word >= 0 && word < WORDS_MOST ? words[word] : BROKEN;
        }

        private static long joined(int step, long left, long right) {
            long n = BROKEN;
            switch (step) {
                case Code.ADD: n = left + right; break;
                case Code.SUBTRACT: n = left - right; break;
                case Code.MULTIPLY: n = left * right; break;
                case Code.DIVIDE: n = right == 0 ? BROKEN : left / right; break;
                case Code.REST: n = right == 0 ? BROKEN : left % right; break;
                case Code.LESS: n = left < right ? 1 : 0; break;
                case Code.MORE: n = left > right ? 1 : 0; break;
                case Code.ALIKE: n = left == right ? 1 : 0; break;
                default: break;
            }
            return n > WORTH_MOST || n < -WORTH_MOST ? BROKEN : n;
        }
    }

    /** Asks a law of the people of some isles, and moves them by the law in force. */
    private static final class Court {
        final Isles isles;
        final Machine machine;
        // The latest line-up: who runs, the first one first.
        final int[] line = new int[PEOPLE_MOST];
        final int[] pace = new int[PEOPLE_MOST];
        int runners = 0;

        Court(Isles ofIsles, Machine withMachine) {
            isles = ofIsles;
            machine = withMachine;
        }

        /** What the last clause of a kind that holds tells; BROKEN if none holds. */
        private long told(Code law, int kind, int person, int race, int place) {
            if (law == null || !isles.isPerson(person) || !isRace(race)) {
                return Machine.BROKEN;
            }
            machine.setLawWords(isles, person, race, place);
            for (int i = law.clauses - 1; i >= 0; i--) {
                if (law.kind[i] == kind && machine.worth(law, law.testFrom[i], law.testTo[i]) == 1) {
                    long n = machine.worth(law, law.sumFrom[i], law.testFrom[i]);
                    if (n != Machine.BROKEN) {
                        return n;
                    }
                }
            }
            return Machine.BROKEN;
        }

        boolean isBarred(Code law, int person, int race) {
            return told(law, BARS, person, race, NONE) != Machine.BROKEN;
        }

        int runsBy(Code law, int person, int race) {
            long n = told(law, RUNS, person, race, NONE);
            return n == Machine.BROKEN ? isles.strength[person * RACES + race] : nearest(n, 99);
        }

        int turnsTo(Code law, int person, int race) {
            long n = told(law, TURNS, person, race, 2);
            return n == Machine.BROKEN ? (isles.now.trade[person] + 1) % TRADES : nearest(n, TRADES - 1);
        }

        private int wins(Code law, int person, int race, int place) {
            long n = told(law, WINS, person, race, place);
            return n == Machine.BROKEN ? 4 - place : nearest(n, 9);
        }

        private static int nearest(long n, int most) {
            return (int) Math.max(0L, Math.min(n, (long) most));
        }

        /** Places all who run in a race: how many. */
        int lineUp(Code law, int race) {
            runners = 0;
            for (int p = 0; p < isles.people; p++) {
                if (isles.now.isIn(p) && !isBarred(law, p, race)) {
                    pace[p] = runsBy(law, p, race);
                    int at = runners;
                    while (at > 0 && pace[line[at - 1]] < pace[p]) {
                        line[at] = line[at - 1];
                        at--;
                    }
                    line[at] = p;
                    runners++;
                }
            }
            return runners;
        }

        /** Who is at a place of the latest line-up. */
        int at(int place) {
            return place >= 1 && place <= runners ? line[place - 1] : NONE;
        }

        /** A move and what it tells, or what it is refused by; it is kept in a past, if there is one. */
        int moved(int kind, int n, Past past) {
            int no = 0;
            if (kind == RACE) {
                no = !isRace(n) ? BY_NUMBER : lineUp(isles.lawInForce(), n) == 0 ? BY_WHAT_STANDS : 0;
            } else if (kind == PASS) {
                no = isles.now.year >= HEAP_MOST ? BY_WHAT_STANDS : 0;
            } else {
                no = !isles.isPerson(n) ? BY_NO_SUCH : kind == TAKE && isles.now.gap == 0 ? BY_WHAT_STANDS : 0;
            }
            if (no != 0) {
                return no;
            }
            if (past != null) {
                past.keep(kind, isles.now);
            }
            switch (kind) {
                case RACE: return heldRace(n);
                case ENTER: return changedEntry(n);
                case TAKE: return takenGap(n);
                default: return passedYear();
            }
        }

        /** Of the race that is lined up. What each wins and turns to is asked ahead of any change. */
        private int heldRace(int race) {
            Code law = isles.lawInForce();
            int first = at(1);
            int second = at(2);
            int third = at(3);
            int firstWins = first == NONE ? 0 : wins(law, first, race, 1);
            int secondWins = second == NONE ? 0 : wins(law, second, race, 2);
            int thirdWins = third == NONE ? 0 : wins(law, third, race, 3);
            if (second != NONE) {
                isles.now.trade[second] = turnsTo(law, second, race);
                isles.now.gap = Math.min(HEAP_MOST, isles.now.gap + secondWins);
            }
            if (first != NONE) {
                isles.now.addPrizes(first, firstWins);
            }
            if (third != NONE) {
                isles.now.addPrizes(third, thirdWins);
            }
            for (int i = 0; i < runners; i++) {
                isles.now.entered &= ~(1 << line[i]);
            }
            return first;
        }

        private int changedEntry(int person) {
            isles.now.entered ^= 1 << person;
            return isles.now.entered >> person & 1;
        }

        private int takenGap(int person) {
            int was = isles.now.gap;
            isles.now.addPrizes(person, was);
            isles.now.gap = 0;
            return was;
        }

        private int passedYear() {
            Code law = isles.lawInForce();
            int turned = 0;
            for (int p = 0; p < isles.people; p++) {
                if (hasTradeOfLower(p)) {
                    isles.now.trade[p] = turnsTo(law, p, 0);
                    turned++;
                }
            }
            isles.now.year++;
            return turned;
        }

        private boolean hasTradeOfLower(int person) {
            for (int q = 0; q < person; q++) {
                if (isles.now.trade[q] == isles.now.trade[person]) {
                    return true;
                }
            }
            return false;
        }
    }

    /** What is found on paper alone: none of it changes the isles. */
    private static final class Study {
        static final int RUNGS_MOST = 60;
        static final int TRIPPED_MOST = 20;
        static final long WHOLE = 1000000000000L;
        static final int SETS = 1 << PEOPLE_MOST;
        static final int NOBODY = 7;
        static final int MORE_THAN_ALL_BEATS = 1000;

        final Court court;
        final Isles isles;
        // The row of the latest ranking, crowning or line of heirs.
        final int[] list = new int[PEOPLE_MOST];
        final int[] waiting = new int[PEOPLE_MOST];
        final int[] best = new int[(RACES + 1) * SETS];
        final int[] score = new int[RACES * PEOPLE_MOST];
        final int[] alike = new int[TRADES];
        final long[] ways = new long[RUNGS_MOST + 1];
        final long[] part = new long[TRIPPED_MOST];
        // How many are left at most by the latest race to watch.
        int leftMost = 0;

        Study(Court ofCourt) {
            court = ofCourt;
            isles = ofCourt.isles;
        }

        /** How all would run in a race; NONE for those barred. */
        private void setScores(int race) {
            Code law = isles.lawInForce();
            for (int p = 0; p < isles.people; p++) {
                score[race * PEOPLE_MOST + p] = court.isBarred(law, p, race) ? NONE : court.runsBy(law, p, race);
            }
        }

        /** By the scores that are set: those not barred who would be ahead of a person, as bits. */
        private int aheadOf(int person, int race) {
            int own = score[race * PEOPLE_MOST + person];
            int ahead = 0;
            for (int q = 0; q < isles.people; q++) {
                int other = score[race * PEOPLE_MOST + q];
                if (other != NONE && (other > own || other == own && q < person)) {
                    ahead |= 1 << q;
                }
            }
            return ahead;
        }

        /** Only entries of those ahead can matter, and the lowest numbers make the lowest bits. */
        int changedEntries(int person, int race, int place) {
            setScores(race);
            if (score[race * PEOPLE_MOST + person] == NONE) {
                return NONE;
            }
            int ahead = aheadOf(person, race);
            int running = ahead & isles.now.entered;
            int tooMany = Integer.bitCount(running) - (place - 1);
            if (tooMany >= 0) {
                return lowestBits(running, tooMany);
            }
            return lowestBits(ahead & ~isles.now.entered, -tooMany);
        }

        /** NONE, if there are not so many. */
        private static int lowestBits(int bits, int n) {
            int lowest = 0;
            int left = bits;
            for (int i = 0; i < n; i++) {
                if (left == 0) {
                    return NONE;
                }
                lowest |= left & -left;
                left &= left - 1;
            }
            return lowest;
        }

        /** Those who would turn to all that was seen, as bits. */
        int suspects() {
            int bits = 0;
            for (int p = 0; p < isles.people; p++) {
                if (fitsAllSeen(p)) {
                    bits |= 1 << p;
                }
            }
            return bits;
        }

        private boolean fitsAllSeen(int person) {
            for (int i = 0; i < isles.seenCount; i++) {
                if (court.turnsTo(isles.lawInForce(), person, isles.seenRace[i]) != isles.seenTrade[i]) {
                    return false;
                }
            }
            return true;
        }

        int raceToWatch() {
            int suspects = suspects();
            if (suspects == 0) {
                return NONE;
            }
            int race = 0;
            leftMost = alikeMost(suspects, 0);
            for (int r = 1; r < RACES; r++) {
                int most = alikeMost(suspects, r);
                if (most < leftMost) {
                    leftMost = most;
                    race = r;
                }
            }
            return race;
        }

        /** The most of these people who would turn alike in a race. */
        private int alikeMost(int people, int race) {
            Arrays.fill(alike, 0);
            int most = 0;
            for (int p = 0; p < isles.people; p++) {
                if ((people >> p & 1) == 1) {
                    int trade = court.turnsTo(isles.lawInForce(), p, race);
                    alike[trade]++;
                    most = Math.max(most, alike[trade]);
                }
            }
            return most;
        }

        /** Fills the list with the first of the best rankings: how many beats it breaks. */
        int rankAll() {
            int all = (1 << isles.people) - 1;
            best[all] = 0;
            for (int ranked = all - 1; ranked >= 0; ranked--) {
                int fewest = MORE_THAN_ALL_BEATS;
                for (int p = 0; p < isles.people; p++) {
                    if ((ranked >> p & 1) == 0) {
                        fewest = Math.min(fewest, brokenBy(p, ranked));
                    }
                }
                best[ranked] = fewest;
            }
            int ranked = 0;
            for (int k = 0; k < isles.people; k++) {
                int p = firstNext(ranked);
                list[k] = p;
                ranked |= 1 << p;
            }
            return best[0];
        }

        /** How many beats are broken from here on, if a person comes next behind those ranked. */
        private int brokenBy(int person, int ranked) {
            return Integer.bitCount(isles.beaten[person] & ranked) + best[ranked | 1 << person];
        }

        private int firstNext(int ranked) {
            for (int p = 0; p < isles.people; p++) {
                if ((ranked >> p & 1) == 0 && brokenBy(p, ranked) == best[ranked]) {
                    return p;
                }
            }
            return 0;
        }

        int circleCount() {
            int circles = 0;
            for (int a = 0; a < isles.people; a++) {
                for (int b = a + 1; b < isles.people; b++) {
                    for (int c = b + 1; c < isles.people; c++) {
                        if (isCircle(a, b, c) || isCircle(a, c, b)) {
                            circles++;
                        }
                    }
                }
            }
            return circles;
        }

        private boolean isCircle(int a, int b, int c) {
            return (isles.beaten[a] >> b & isles.beaten[b] >> c & isles.beaten[c] >> a & 1) == 1;
        }

        /** Fills the list with the first of the best crownings, race by race: how they run together. */
        int crownAll() {
            for (int r = 0; r < RACES; r++) {
                setScores(r);
            }
            int sets = 1 << isles.people;
            for (int r = RACES; r >= 0; r--) {
                for (int used = 0; used < sets; used++) {
                    // Ahead of race r no more than r people can have been used.
                    if (Integer.bitCount(used) <= r) {
                        best[r * SETS + used] = r == RACES ? 0 : bestFrom(r, used);
                    }
                }
            }
            int used = 0;
            for (int r = 0; r < RACES; r++) {
                list[r] = firstCrowned(r, used);
                used |= list[r] == NOBODY ? 0 : 1 << list[r];
            }
            return best[0];
        }

        private int bestFrom(int race, int used) {
            int most = best[(race + 1) * SETS + used];
            for (int p = 0; p < isles.people; p++) {
                most = Math.max(most, scoreWith(p, race, used));
            }
            return most;
        }

        /** NONE, if she is barred or used already. */
        private int scoreWith(int person, int race, int used) {
            int own = score[race * PEOPLE_MOST + person];
            if (own == NONE || (used >> person & 1) == 1) {
                return NONE;
            }
            return own + best[(race + 1) * SETS + (used | 1 << person)];
        }

        private int firstCrowned(int race, int used) {
            for (int p = 0; p < isles.people; p++) {
                if (scoreWith(p, race, used) == best[race * SETS + used]) {
                    return p;
                }
            }
            return NOBODY;
        }

        /** Fills the list with the line to the crown: how many. */
        int lineOfHeirs() {
            int heirs = 0;
            int top = awaitChildren(NONE, 0);
            for (int n = 0; n < isles.people && top > 0; n++) {
                top--;
                int p = waiting[top];
                if (elders(p) != 1) {
                    list[heirs] = p;
                    heirs++;
                }
                top = awaitChildren(p, top);
            }
            return heirs;
        }

        /** The last comes first, so that the lowest number is on top. */
        private int awaitChildren(int parent, int top) {
            int above = top;
            for (int p = isles.people - 1; p >= 0; p--) {
                if (isles.parent[p] == parent && above < PEOPLE_MOST) {
                    waiting[above] = p;
                    above++;
                }
            }
            return above;
        }

        /** How many of the same parent, or of those without, have a lower number. */
        private int elders(int person) {
            int elders = 0;
            for (int q = 0; q < person; q++) {
                if (isles.parent[q] == isles.parent[person]) {
                    elders++;
                }
            }
            return elders;
        }

        long waysUp(int n, int k) {
            ways[0] = 1;
            for (int rung = 1; rung <= n && rung <= RUNGS_MOST; rung++) {
                long sum = 0;
                for (int steps = 1; steps <= k && steps <= rung && rung != 2; steps++) {
                    sum += ways[rung - steps];
                }
                ways[rung] = sum;
            }
            return n >= 0 && n <= RUNGS_MOST ? ways[n] : NONE;
        }

        /** She would be second with just one of those ahead of her, so nobody may be ahead. */
        int neverSecond() {
            int bits = (1 << isles.people) - 1;
            for (int r = 0; r < RACES; r++) {
                setScores(r);
                for (int p = 0; p < isles.people; p++) {
                    if (score[r * PEOPLE_MOST + p] != NONE && aheadOf(p, r) != 0) {
                        bits &= ~(1 << p);
                    }
                }
            }
            return bits;
        }

        long chanceOfFewer(int k, int n) {
            Arrays.fill(part, 0L);
            part[0] = WHOLE;
            int most = Math.min(k, TRIPPED_MOST);
            for (int runner = 0; runner < n; runner++) {
                // From the most down, so that each part is still the one ahead of this runner.
                for (int j = most - 1; j >= 0; j--) {
                    long tripped = j > 0 ? part[j - 1] * isles.trips / 10 : 0;
                    part[j] = part[j] * (10 - isles.trips) / 10 + tripped;
                }
            }
            long all = 0;
            for (int j = 0; j < most; j++) {
                all += part[j];
            }
            return all;
        }
    }
}
