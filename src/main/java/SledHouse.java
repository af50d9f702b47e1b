import java.util.Arrays;

/** A race of dog sleds over many checkpoints, stepped ten minutes at a time. */
public final class SledHouse {
    public static final int NONE = -1;

    private static final int MOST_LEGS = 12;
    private static final int MOST_TEAMS = 6;
    private static final int MOST_DOGS = 16;
    private static final int MOST_PLANS = 8;
    private static final int MOST_RULES = 12;
    private static final int MOST_TESTS = 4;
    private static final int MOST_LAWS = 10;
    private static final int MOST_GAPS = 4;
    private static final int MOST_STEPS = 2000;
    private static final int MOST_BYTES = 400;
    private static final int HOURS = 334;
    private static final int STEPS_OF_HOUR = 6;
    private static final int FULL_STRENGTH = 1000;
    private static final int FASTEST = 60;

    private static final int NOT_REFUSED = 0;
    private static final int NO_SUCH = 1;
    private static final int BAD_NUMBER = 2;
    private static final int NO_ROOM = 3;
    private static final int FAULTY = 4;
    private static final int BAD_TIME = 5;

    private static final int FORM = 1;
    private static final int NO_NAME = 2;
    private static final int MANY = 3;

    private static final int WAITS = 0;
    private static final int ON = 1;
    private static final int HOME = 2;
    private static final int OUT = 3;

    private static final int PULLS = 0;
    private static final int CARRIED = 1;
    private static final int LEFT = 2;

    private static final int GO = 0;
    private static final int STAY = 1;
    private static final int FEED = 2;
    private static final int LEAVE = 3;
    private static final int NO_RULE = 100;
    private static final int NO_POST = 99;

    private static final int END = 0;
    private static final int WORD = 1;
    private static final int NUMBER = 2;
    private static final int BELOW = 3;
    private static final int ABOVE = 4;
    private static final int SEMICOLON = 5;
    private static final int NO_TOKEN = 6;
    private static final int BLANK = 7;

    private static final int REST_AT = 0;
    private static final int REST_FROM_TO = 1;
    private static final int DOGS_HOME = 2;
    private static final int FINE = 3;

    private final Tape tape = new Tape();
    private final Plan[] plans = new Plan[MOST_PLANS + 1];
    private final LawBook lawBook = new LawBook();
    private final Race now = new Race();
    private final SignRow[] signRows = new SignRow[MOST_TEAMS];
    private final Team ghost = new Team();
    private Race kept = null;
    private int planCount = 0;
    private int refusal = NOT_REFUSED;
    private int ghostOf = NONE;
    private int ghostPlan = NONE;
    private int ghostSteps = 0;

    public SledHouse() {
        // one plan more than there may be: a text is read there when all others are taken
        for (int i = 0; i <= MOST_PLANS; i++) {
            plans[i] = new Plan();
        }
        for (int i = 0; i < MOST_TEAMS; i++) {
            signRows[i] = new SignRow();
        }
    }

    public int leg(int length, int hardness) {
        if (now.steps > 0) {
            return refuse(BAD_TIME);
        }
        if (!within(length, 10, 2000) || !within(hardness, 50, 200)) {
            return refuse(BAD_NUMBER);
        }
        if (now.trail.legs >= MOST_LEGS) {
            return refuse(NO_ROOM);
        }
        now.trail.add(length, hardness);
        return grant(now.trail.legs);
    }

    public boolean cold(int from, int to, int degrees) {
        if (from < 0 || to >= HOURS || from > to || !within(degrees, -50, 20)) {
            return deny(BAD_NUMBER);
        }
        int firstFree = (now.steps + STEPS_OF_HOUR - 1) / STEPS_OF_HOUR;
        for (int hour = Math.max(from, firstFree); hour <= to; hour++) {
            now.trail.degrees[hour] = degrees;
        }
        return allow();
    }

    /** No number of TROUBLE is named for this call: its NONE leaves TROUBLE as it was, and so do its bytes. */
    public int feed(int a, int b, int c, int d, int e) {
        if (tape.size + 20 > MOST_BYTES) {
            return NONE;
        }
        tape.put(a);
        tape.put(b);
        tape.put(c);
        tape.put(d);
        tape.put(e);
        return tape.size;
    }

    public int plan(int n) {
        if (n < 0 || n > tape.size) {
            return refuse(BAD_NUMBER);
        }
        tape.open(n);
        if (!plans[planCount].readFrom(tape)) {
            return refuse(FAULTY);
        }
        if (planCount >= MOST_PLANS) {
            return refuse(NO_ROOM);
        }
        planCount++;
        return grant(planCount - 1);
    }

    public int laws(int n) {
        if (n < 0 || n > tape.size) {
            return refuse(BAD_NUMBER);
        }
        tape.open(n);
        if (!lawBook.readFrom(tape)) {
            return refuse(FAULTY);
        }
        return grant(lawBook.many);
    }

    public int fault() {
        return tape.faultKind;
    }

    public int where() {
        return refusal == FAULTY ? tape.faultPlace : NONE;
    }

    public int team(int dogs, int load, int meals, int start, int plan) {
        if (now.steps > 0 || now.trail.legs == 0) {
            return refuse(BAD_TIME);
        }
        if (!isPlan(plan)) {
            return refuse(NO_SUCH);
        }
        if (!within(dogs, 4, MOST_DOGS) || !within(load, 20, 300)
                || !within(meals, 0, 60) || !within(start, 0, 100)) {
            return refuse(BAD_NUMBER);
        }
        if (now.teamCount >= MOST_TEAMS) {
            return refuse(NO_ROOM);
        }
        int number = now.teamCount;
        now.teams[number].begin(dogs, load, meals, start, plan);
        now.teamCount++;
        return grant(number);
    }

    public boolean follow(int team, int plan) {
        if (!isTeam(team) || !isPlan(plan)) {
            return deny(NO_SUCH);
        }
        Team one = now.teams[team];
        if (one.isThrough()) {
            return deny(BAD_TIME);
        }
        one.planNumber = plan;
        return allow();
    }

    public int gap(int team, int from, int to) {
        if (!isTeam(team)) {
            return refuse(NO_SUCH);
        }
        if (from < 0 || to > MOST_STEPS || from > to) {
            return refuse(BAD_NUMBER);
        }
        Gaps gaps = now.teams[team].gaps;
        if (gaps.many >= MOST_GAPS) {
            return refuse(NO_ROOM);
        }
        gaps.add(from, to);
        return grant(gaps.many);
    }

    public boolean each(int steps) {
        if (now.steps > 0) {
            return deny(BAD_TIME);
        }
        if (!within(steps, 1, 48)) {
            return deny(BAD_NUMBER);
        }
        now.signEach = steps;
        return allow();
    }

    public int run(int n) {
        if (!now.canStep()) {
            return refuse(BAD_TIME);
        }
        if (!within(n, 1, 500)) {
            return refuse(BAD_NUMBER);
        }
        int done = 0;
        while (done < n && now.canStep()) {
            oneStep();
            done++;
        }
        return grant(done);
    }

    public int about(int team, int what) {
        if (!isTeam(team)) {
            return NONE;
        }
        Team one = now.teams[team];
        switch (what) {
            case 0: return one.status;
            case 1: return one.legNumber;
            case 2: return one.onLeg;
            case 3: return one.way(now.trail);
            case 4: return one.dogs.pulling;
            case 5: return one.dogs.carried;
            case 6: return one.dogs.many - one.dogs.pulling - one.dogs.carried;
            case 7: return one.loadNow();
            case 8: return one.meals;
            case 9: return one.running;
            case 10: return one.resting;
            case 11: return one.planNumber;
            case 12: return one.start;
            default: return NONE;
        }
    }

    public int dog(int team, int dog, int what) {
        if (!isTeam(team)) {
            return NONE;
        }
        Dogs dogs = now.teams[team].dogs;
        if (dog < 0 || dog >= dogs.many) {
            return NONE;
        }
        switch (what) {
            case 0: return dogs.strength[dog];
            case 1: return dogs.state[dog];
            case 2: return dogs.leftAt[dog];
            default: return NONE;
        }
    }

    public int time(int team, int post, boolean away) {
        if (!isTeam(team) || !isPost(post)) {
            return NONE;
        }
        Team one = now.teams[team];
        return away ? one.awayFrom[post] : one.cameIn[post];
    }

    public int did(int team) {
        return isTeam(team) ? now.teams[team].lastRule : NONE;
    }

    public int result(int team) {
        return isHome(team) ? lawBook.resultOf(now.teams[team], now.trail.legs) : NONE;
    }

    public int lacks(int team, int i) {
        if (!isHome(team) || !isLaw(i)) {
            return NONE;
        }
        return lawBook.lackOf(i, now.teams[team], now.trail.legs);
    }

    public int place(int i) {
        for (int team = 0; team < now.teamCount; team++) {
            int ahead = 0;
            for (int other = 0; other < now.teamCount; other++) {
                ahead += isAhead(other, team) ? 1 : 0;
            }
            if (ahead == i) {
                return team;
            }
        }
        return NONE;
    }

    public int came(int post, int step) {
        if (!isPost(post)) {
            return NONE;
        }
        int many = 0;
        for (int i = 0; i < now.teamCount; i++) {
            int in = now.teams[i].cameIn[post];
            if (in != NONE && in <= step) {
                many++;
            }
        }
        return many;
    }

    public int spot(int team, int step, boolean most) {
        if (!isTeam(team) || step < 0 || step >= now.steps) {
            return NONE;
        }
        return most ? greatestWay(team, step) : leastWay(team, step);
    }

    public int signs(int team) {
        return isTeam(team) ? signRows[team].howMany(now.signEach, now.steps) : NONE;
    }

    public int replay(int team, int plan, int what) {
        if (!isTeam(team) || !isPlan(plan)) {
            return refuse(NO_SUCH);
        }
        if (!within(what, 0, 3)) {
            return refuse(BAD_NUMBER);
        }
        bringGhost(team, plan);
        switch (what) {
            case 0: return grant(ghost.way(now.trail));
            case 1: return grant(ghost.dogs.pulling);
            case 2: return grant(ghost.status);
            default: return grant(ghost.cameIn[now.trail.legs]);
        }
    }

    public boolean keep() {
        if (kept == null) {
            kept = new Race();
        }
        kept.copyFrom(now);
        return true;
    }

    public boolean back() {
        if (kept == null) {
            return deny(NO_SUCH);
        }
        now.copyFrom(kept);
        // the ghost may have gone over days and teams that are no more
        ghostOf = NONE;
        return allow();
    }

    public int law(int i, int what) {
        return isLaw(i) ? lawBook.part(i, what) : NONE;
    }

    public int planned(int plan, int what) {
        if (!isPlan(plan)) {
            return NONE;
        }
        switch (what) {
            case 0: return plans[plan].rules;
            case 1: return plans[plan].tests;
            default: return NONE;
        }
    }

    public int count(int what) {
        switch (what) {
            case 0: return now.trail.legs;
            case 1: return now.teamCount;
            case 2: return planCount;
            case 3: return lawBook.many;
            case 4: return now.steps;
            case 5: return now.trail.whole();
            case 6: return tape.size;
            default: return NONE;
        }
    }

    public int trouble() {
        return refusal;
    }

    private int refuse(int why) {
        refusal = why;
        return NONE;
    }

    private boolean deny(int why) {
        refusal = why;
        return false;
    }

    private int grant(int answer) {
        refusal = NOT_REFUSED;
        return answer;
    }

    private boolean allow() {
        refusal = NOT_REFUSED;
        return true;
    }

    private boolean isTeam(int team) {
        return team >= 0 && team < now.teamCount;
    }

    private boolean isHome(int team) {
        return isTeam(team) && now.teams[team].status == HOME;
    }

    private boolean isPlan(int plan) {
        return plan >= 0 && plan < planCount;
    }

    private boolean isLaw(int i) {
        return i >= 0 && i < lawBook.many;
    }

    private boolean isPost(int post) {
        return post >= 0 && post <= now.trail.legs;
    }

    private static boolean within(int number, int least, int most) {
        return number >= least && number <= most;
    }

    /** All divisions of numbers that are not below 0 by one that isn't written out. */
    private static int share(int number, int among) {
        return among > 0 ? number / among : 0;
    }

    private void oneStep() {
        int step = now.steps;
        for (int i = 0; i < now.teamCount; i++) {
            Team one = now.teams[i];
            one.doStep(now.trail, plans[one.planNumber], step);
            signRows[i].tell(one, now.trail, step, now.signEach);
        }
        now.steps = step + 1;
    }

    private boolean isAhead(int one, int other) {
        int groups = Integer.compare(groupOf(one), groupOf(other));
        if (groups != 0) {
            return groups < 0;
        }
        int values = Integer.compare(valueInGroup(one), valueInGroup(other));
        return values != 0 ? values < 0 : one < other;
    }

    private int groupOf(int team) {
        switch (now.teams[team].status) {
            case HOME: return 0;
            case ON: return 1;
            case WAITS: return 2;
            default: return 3;
        }
    }

    private int valueInGroup(int team) {
        Team one = now.teams[team];
        switch (one.status) {
            case HOME: return lawBook.resultOf(one, now.trail.legs);
            case ON: return -one.way(now.trail);
            default: return 0;
        }
    }

    private int leastWay(int team, int step) {
        SignRow row = signRows[team];
        int each = now.signEach;
        int latest = row.latest(each, step);
        int next = row.next(each, step, now.steps);
        int least = latest == NONE ? 0 : row.ways[latest];
        if (next == NONE) {
            return least;
        }
        return Math.max(least, row.ways[next] - FASTEST * (next * each - step));
    }

    private int greatestWay(int team, int step) {
        SignRow row = signRows[team];
        int each = now.signEach;
        int latest = row.latest(each, step);
        int next = row.next(each, step, now.steps);
        int most = next == NONE ? now.trail.whole() : row.ways[next];
        if (latest == NONE) {
            int stepsOn = Math.max(0, step - now.teams[team].start + 1);
            return Math.min(most, FASTEST * stepsOn);
        }
        return Math.min(most, row.ways[latest] + FASTEST * (step - latest * each));
    }

    /** The ghost goes on from where it was: one replay is often asked for several things in turn. */
    private void bringGhost(int team, int plan) {
        if (team != ghostOf || plan != ghostPlan) {
            now.teams[team].beginAgain(ghost, plan);
            ghostOf = team;
            ghostPlan = plan;
            ghostSteps = 0;
        }
        for (; ghostSteps < now.steps; ghostSteps++) {
            ghost.doStep(now.trail, plans[plan], ghostSteps);
        }
    }

    /** THE TAPE, and the TOKEN at which the reading of its text stands. */
    private static final class Tape {
        private final byte[] bytes = new byte[MOST_BYTES];
        private int size = 0;
        private int end = 0;
        private int next = 0;
        private int kind = END;
        private int at = 0;
        private int value = 0;
        private int faultKind = 0;
        private int faultPlace = NONE;

        void put(int number) {
            for (int shift = 24; shift >= 0; shift -= 8) {
                if (size < MOST_BYTES) {
                    bytes[size] = (byte) (number >> shift);
                    size++;
                }
            }
        }

        /** The first n bytes are read now, and the tape counts as empty. */
        void open(int n) {
            end = Math.min(n, MOST_BYTES);
            size = 0;
            next = 0;
            faultKind = 0;
            faultPlace = NONE;
            advance();
        }

        boolean fail(int why) {
            faultKind = why;
            faultPlace = at;
            return false;
        }

        void advance() {
            while (next < end && kindOf(bytes[next]) == BLANK) {
                next++;
            }
            at = next;
            value = 0;
            kind = next < end ? kindOf(bytes[next]) : END;
            if (kind == WORD || kind == NUMBER) {
                // of a WORD the value is of no matter
                while (next < end && kindOf(bytes[next]) == kind) {
                    value = value * 10 + (bytes[next] - '0');
                    next++;
                }
                kind = next - at <= (kind == WORD ? 8 : 4) ? kind : NO_TOKEN;
            } else if (next < end) {
                next++;
            }
        }

        /** Which TOKEN a byte is, or begins. */
        private static int kindOf(int sign) {
            if (sign >= 'a' && sign <= 'z') {
                return WORD;
            }
            if (sign >= '0' && sign <= '9') {
                return NUMBER;
            }
            switch (sign) {
                case 32: return BLANK;
                case 10: return BLANK;
                case '<': return BELOW;
                case '>': return ABOVE;
                case ';': return SEMICOLON;
                default: return NO_TOKEN;
            }
        }

        boolean isWord(String word) {
            if (kind != WORD || next - at != word.length()) {
                return false;
            }
            for (int i = 0; i < word.length() && at + i < end; i++) {
                if (bytes[at + i] != word.charAt(i)) {
                    return false;
                }
            }
            return true;
        }

        boolean takeSemicolon() {
            if (kind != SEMICOLON) {
                return fail(FORM);
            }
            advance();
            return true;
        }

        boolean takeThis(String word) {
            if (!isWord(word)) {
                return fail(FORM);
            }
            advance();
            return true;
        }
    }

    /** The RULES of one PLAN; the TESTS of all of them stand in one row. */
    private static final class Plan {
        private final int[] acts = new int[MOST_RULES];
        private final int[] firstTest = new int[MOST_RULES];
        private final int[] testCount = new int[MOST_RULES];
        private final int[] names = new int[MOST_RULES * MOST_TESTS];
        private final int[] numbers = new int[MOST_RULES * MOST_TESTS];
        private final boolean[] above = new boolean[MOST_RULES * MOST_TESTS];
        private int rules = 0;
        private int tests = 0;

        boolean readFrom(Tape tape) {
            rules = 0;
            tests = 0;
            for (int i = 0; i <= MOST_RULES; i++) {
                if (!readRule(tape)) {
                    return false;
                }
                if (tape.kind == END) {
                    return true;
                }
                if (!tape.takeSemicolon()) {
                    return false;
                }
            }
            return tape.fail(MANY);
        }

        private boolean readRule(Tape tape) {
            boolean tested = tape.isWord("when");
            if (!tested && actOf(tape) == NONE) {
                return tape.fail(FORM);
            }
            if (rules >= MOST_RULES) {
                return tape.fail(MANY);
            }
            firstTest[rules] = tests;
            if (tested && !readTests(tape)) {
                return false;
            }
            int act = actOf(tape);
            if (act == NONE) {
                return tape.fail(FORM);
            }
            tape.advance();
            acts[rules] = act;
            testCount[rules] = tests - firstTest[rules];
            rules++;
            return true;
        }

        private boolean readTests(Tape tape) {
            boolean more = true;
            for (int i = 0; i <= MOST_TESTS && more; i++) {
                // past 'when' or 'and'
                tape.advance();
                if (!readTest(tape, i)) {
                    return false;
                }
                more = tape.isWord("and");
            }
            return true;
        }

        private boolean readTest(Tape tape, int i) {
            int name = nameOf(tape);
            if (name == NONE) {
                boolean otherWord = tape.isWord("when") || tape.isWord("and") || actOf(tape) != NONE;
                return tape.fail(tape.kind == WORD && !otherWord ? NO_NAME : FORM);
            }
            if (i >= MOST_TESTS || tests >= names.length) {
                return tape.fail(MANY);
            }
            tape.advance();
            if (tape.kind != BELOW && tape.kind != ABOVE) {
                return tape.fail(FORM);
            }
            names[tests] = name;
            above[tests] = tape.kind == ABOVE;
            tape.advance();
            if (tape.kind != NUMBER) {
                return tape.fail(FORM);
            }
            numbers[tests] = tape.value;
            tests++;
            tape.advance();
            return true;
        }

        private static int actOf(Tape tape) {
            if (tape.isWord("go")) {
                return GO;
            }
            if (tape.isWord("stay")) {
                return STAY;
            }
            if (tape.isWord("feed")) {
                return FEED;
            }
            return tape.isWord("leave") ? LEAVE : NONE;
        }

        private static int nameOf(Tape tape) {
            if (tape.isWord("run")) {
                return Name.RUN;
            }
            if (tape.isWord("rest")) {
                return Name.REST;
            }
            if (tape.isWord("weak")) {
                return Name.WEAK;
            }
            if (tape.isWord("mean")) {
                return Name.MEAN;
            }
            if (tape.isWord("cold")) {
                return Name.COLD;
            }
            if (tape.isWord("meals")) {
                return Name.MEALS;
            }
            if (tape.isWord("dogs")) {
                return Name.DOGS;
            }
            if (tape.isWord("left")) {
                return Name.WAY_LEFT;
            }
            if (tape.isWord("hour")) {
                return Name.HOUR;
            }
            if (tape.isWord("post")) {
                return Name.POST;
            }
            return tape.isWord("load") ? Name.LOAD : NONE;
        }

        /** The first RULE whose TESTS all hold; NO_RULE if there is none. */
        int ruleFor(Team team, Trail trail, int step) {
            for (int rule = 0; rule < rules; rule++) {
                if (holds(rule, team, trail, step)) {
                    return rule;
                }
            }
            return NO_RULE;
        }

        private boolean holds(int rule, Team team, Trail trail, int step) {
            int past = firstTest[rule] + testCount[rule];
            for (int i = firstTest[rule]; i < past; i++) {
                int value = Name.valueOf(names[i], team, trail, step);
                if (above[i] ? value <= numbers[i] : value >= numbers[i]) {
                    return false;
                }
            }
            return true;
        }

        int actOfRule(int rule) {
            return rule >= 0 && rule < rules ? acts[rule] : GO;
        }
    }

    /** The NAMES of TESTS, and what they tell of a TEAM. */
    private static final class Name {
        private static final int RUN = 0;
        private static final int REST = 1;
        private static final int WEAK = 2;
        private static final int MEAN = 3;
        private static final int COLD = 4;
        private static final int MEALS = 5;
        private static final int DOGS = 6;
        private static final int WAY_LEFT = 7;
        private static final int HOUR = 8;
        private static final int POST = 9;
        private static final int LOAD = 10;

        static int valueOf(int name, Team team, Trail trail, int step) {
            switch (name) {
                case RUN: return team.running;
                case REST: return team.resting;
                case WEAK: return team.dogs.leastStrength();
                case MEAN: return team.dogs.meanStrength();
                case COLD: return trail.coldIn(step) + 100;
                case MEALS: return team.meals;
                case DOGS: return team.dogs.pulling;
                case WAY_LEFT: return trail.lengthOf(team.legNumber) - team.onLeg;
                case HOUR: return step / STEPS_OF_HOUR % 24;
                case POST: return team.onLeg == 0 ? team.legNumber : NO_POST;
                case LOAD: return team.loadNow();
                default: return 0;
            }
        }
    }

    /** The LAWS, and what HOME TEAMS lack by them. */
    private static final class LawBook {
        private final int[] kinds = new int[MOST_LAWS];
        private final int[] first = new int[MOST_LAWS];
        private final int[] second = new int[MOST_LAWS];
        private final int[] third = new int[MOST_LAWS];
        private int many = 0;

        boolean readFrom(Tape tape) {
            // LAWS of this text are there only when all of it is well
            for (int law = many; law <= MOST_LAWS; law++) {
                if (!readLaw(tape, law)) {
                    return false;
                }
                if (tape.kind == END) {
                    many = law + 1;
                    return true;
                }
                if (!tape.takeSemicolon()) {
                    return false;
                }
            }
            return tape.fail(MANY);
        }

        private boolean readLaw(Tape tape, int law) {
            boolean ofRest = tape.isWord("rest");
            boolean ofDogs = tape.isWord("dogs");
            if (!ofRest && !ofDogs && !tape.isWord("fine")) {
                return tape.fail(FORM);
            }
            if (law >= MOST_LAWS) {
                return tape.fail(MANY);
            }
            second[law] = 0;
            third[law] = 0;
            tape.advance();
            if (!readNumber(tape, first, law)) {
                return false;
            }
            if (ofDogs) {
                kinds[law] = DOGS_HOME;
                return true;
            }
            return ofRest ? readPosts(tape, law) : readSecondFine(tape, law);
        }

        private boolean readPosts(Tape tape, int law) {
            if (tape.isWord("from")) {
                kinds[law] = REST_FROM_TO;
                tape.advance();
                return readNumber(tape, second, law) && tape.takeThis("to") && readNumber(tape, third, law);
            }
            kinds[law] = REST_AT;
            return tape.takeThis("at") && readNumber(tape, second, law);
        }

        private boolean readSecondFine(Tape tape, int law) {
            kinds[law] = FINE;
            return tape.takeThis("for") && readNumber(tape, second, law);
        }

        private static boolean readNumber(Tape tape, int[] row, int law) {
            if (tape.kind != NUMBER) {
                return tape.fail(FORM);
            }
            row[law] = tape.value;
            tape.advance();
            return true;
        }

        int part(int i, int what) {
            switch (what) {
                case 0: return kinds[i];
                case 1: return first[i];
                case 2: return second[i];
                case 3: return third[i];
                default: return NONE;
            }
        }

        int lackOf(int i, Team team, int lastPost) {
            switch (kinds[i]) {
                case REST_AT: return leastLack(first[i], second[i], second[i], team, lastPost);
                case REST_FROM_TO: return leastLack(first[i], second[i], third[i], team, lastPost);
                case DOGS_HOME: return Math.max(0, first[i] - team.dogs.pulling);
                default: return 0;
            }
        }

        private static int leastLack(int wanted, int from, int to, Team team, int lastPost) {
            // whatever is wanted counts as rested at the last checkpoint
            if (from > to || to >= lastPost) {
                return 0;
            }
            int least = wanted;
            for (int post = from; post <= to; post++) {
                least = Math.min(least, wanted - team.restedAt(post));
            }
            return Math.max(0, least);
        }

        int resultOf(Team team, int lastPost) {
            int steps = 0;
            int dogs = 0;
            int fineOfStep = 2;
            int fineOfDog = 60;
            for (int i = 0; i < many; i++) {
                if (kinds[i] == FINE) {
                    fineOfStep = first[i];
                    fineOfDog = second[i];
                } else if (kinds[i] == DOGS_HOME) {
                    dogs += lackOf(i, team, lastPost);
                } else {
                    steps += lackOf(i, team, lastPost);
                }
            }
            return team.cameIn[lastPost] - team.start + fineOfStep * steps + fineOfDog * dogs;
        }
    }

    /** The LEGS, and the COLD of each hour. */
    private static final class Trail {
        private final int[] lengths = new int[MOST_LEGS];
        private final int[] hardness = new int[MOST_LEGS];
        private final int[] waysTo = new int[MOST_LEGS + 1];
        private final int[] degrees = new int[HOURS];
        private int legs = 0;

        Trail() {
            Arrays.fill(degrees, -20);
        }

        void add(int length, int hard) {
            lengths[legs] = length;
            hardness[legs] = hard;
            waysTo[legs + 1] = waysTo[legs] + length;
            legs++;
        }

        int whole() {
            return waysTo[legs];
        }

        int lengthOf(int leg) {
            return leg >= 0 && leg < legs ? lengths[leg] : 0;
        }

        int coldIn(int step) {
            int hour = step / STEPS_OF_HOUR;
            return hour >= 0 && hour < HOURS ? degrees[hour] : 0;
        }

        void copyFrom(Trail other) {
            System.arraycopy(other.lengths, 0, lengths, 0, MOST_LEGS);
            System.arraycopy(other.hardness, 0, hardness, 0, MOST_LEGS);
            System.arraycopy(other.waysTo, 0, waysTo, 0, MOST_LEGS + 1);
            System.arraycopy(other.degrees, 0, degrees, 0, HOURS);
            legs = other.legs;
        }
    }

    /** The DOGS of one TEAM. */
    private static final class Dogs {
        private final int[] strength = new int[MOST_DOGS];
        private final int[] state = new int[MOST_DOGS];
        private final int[] leftAt = new int[MOST_DOGS];
        private int many = 0;
        private int pulling = 0;
        private int carried = 0;

        void begin(int howMany) {
            many = Math.min(howMany, MOST_DOGS);
            pulling = many;
            carried = 0;
            for (int i = 0; i < many; i++) {
                strength[i] = FULL_STRENGTH;
                state[i] = PULLS;
                leftAt[i] = NONE;
            }
        }

        void copyFrom(Dogs other) {
            System.arraycopy(other.strength, 0, strength, 0, MOST_DOGS);
            System.arraycopy(other.state, 0, state, 0, MOST_DOGS);
            System.arraycopy(other.leftAt, 0, leftAt, 0, MOST_DOGS);
            many = other.many;
            pulling = other.pulling;
            carried = other.carried;
        }

        int meanStrength() {
            int all = 0;
            for (int i = 0; i < many; i++) {
                if (state[i] == PULLS) {
                    all += strength[i];
                }
            }
            return pulling > 0 ? all / pulling : 0;
        }

        int leastStrength() {
            int least = NONE;
            for (int i = 0; i < many; i++) {
                if (state[i] == PULLS && (least == NONE || strength[i] < least)) {
                    least = strength[i];
                }
            }
            return Math.max(0, least);
        }

        private int weakest() {
            int dog = NONE;
            for (int i = 0; i < many; i++) {
                if (state[i] == PULLS && (dog == NONE || strength[i] < strength[dog])) {
                    dog = i;
                }
            }
            return dog;
        }

        void gain(int much) {
            for (int i = 0; i < many; i++) {
                if (state[i] == PULLS) {
                    strength[i] = Math.min(FULL_STRENGTH, strength[i] + much);
                }
            }
        }

        void lose(int much) {
            for (int i = 0; i < many; i++) {
                if (state[i] == PULLS) {
                    strength[i] = Math.max(0, strength[i] - much);
                    if (strength[i] == 0) {
                        state[i] = CARRIED;
                        pulling--;
                        carried++;
                    }
                }
            }
        }

        void leaveWeakest(int post) {
            int dog = weakest();
            if (dog != NONE) {
                state[dog] = LEFT;
                leftAt[dog] = post;
                pulling--;
            }
        }

        void leaveCarried(int post) {
            for (int i = 0; i < many && carried > 0; i++) {
                if (state[i] == CARRIED) {
                    state[i] = LEFT;
                    leftAt[i] = post;
                    carried--;
                }
            }
        }
    }

    /** The STEPS in which no SIGNS come of a TEAM. */
    private static final class Gaps {
        private final int[] from = new int[MOST_GAPS];
        private final int[] to = new int[MOST_GAPS];
        private int many = 0;

        void add(int first, int last) {
            if (many < MOST_GAPS) {
                from[many] = first;
                to[many] = last;
                many++;
            }
        }

        boolean hide(int step) {
            for (int i = 0; i < many; i++) {
                if (step >= from[i] && step <= to[i]) {
                    return true;
                }
            }
            return false;
        }

        void copyFrom(Gaps other) {
            System.arraycopy(other.from, 0, from, 0, MOST_GAPS);
            System.arraycopy(other.to, 0, to, 0, MOST_GAPS);
            many = other.many;
        }
    }

    private static final class Team {
        private final Dogs dogs = new Dogs();
        private final Gaps gaps = new Gaps();
        private final int[] cameIn = new int[MOST_LEGS + 1];
        private final int[] awayFrom = new int[MOST_LEGS + 1];
        private int ownLoad = 0;
        private int firstMeals = 0;
        private int start = 0;
        private int planNumber = 0;
        private int status = WAITS;
        private int meals = 0;
        private int legNumber = 0;
        private int onLeg = 0;
        private int running = 0;
        private int resting = 0;
        private int lastRule = NONE;

        void begin(int howMany, int load, int mealCount, int startStep, int plan) {
            dogs.begin(howMany);
            gaps.many = 0;
            Arrays.fill(cameIn, NONE);
            Arrays.fill(awayFrom, NONE);
            ownLoad = load;
            firstMeals = mealCount;
            start = startStep;
            planNumber = plan;
            status = WAITS;
            meals = mealCount;
            legNumber = 0;
            onLeg = 0;
            running = 0;
            resting = 0;
            lastRule = NONE;
        }

        void beginAgain(Team other, int plan) {
            other.begin(dogs.many, ownLoad, firstMeals, start, plan);
        }

        void copyFrom(Team other) {
            dogs.copyFrom(other.dogs);
            gaps.copyFrom(other.gaps);
            System.arraycopy(other.cameIn, 0, cameIn, 0, MOST_LEGS + 1);
            System.arraycopy(other.awayFrom, 0, awayFrom, 0, MOST_LEGS + 1);
            ownLoad = other.ownLoad;
            firstMeals = other.firstMeals;
            start = other.start;
            planNumber = other.planNumber;
            status = other.status;
            meals = other.meals;
            legNumber = other.legNumber;
            onLeg = other.onLeg;
            running = other.running;
            resting = other.resting;
            lastRule = other.lastRule;
        }

        boolean isThrough() {
            return status == HOME || status == OUT;
        }

        int way(Trail trail) {
            return trail.waysTo[legNumber] + onLeg;
        }

        int loadNow() {
            return ownLoad + 25 * dogs.carried;
        }

        int restedAt(int post) {
            if (post < 0 || post > MOST_LEGS || awayFrom[post] == NONE) {
                return 0;
            }
            return awayFrom[post] - cameIn[post];
        }

        void doStep(Trail trail, Plan plan, int step) {
            if (status == WAITS && step == start) {
                status = ON;
                cameIn[0] = start;
            }
            if (status != ON || legNumber >= trail.legs) {
                return;
            }
            lastRule = plan.ruleFor(this, trail, step);
            int act = plan.actOfRule(lastRule);
            if (act == GO) {
                goOn(trail, step);
            } else {
                pause(act, trail.coldIn(step));
            }
        }

        private void pause(int act, int degrees) {
            if (act == FEED && meals > 0) {
                meals--;
                dogs.gain(120);
            } else if (act == LEAVE && onLeg == 0 && dogs.pulling > 1) {
                dogs.leaveWeakest(legNumber);
            }
            dogs.gain(restGain(degrees));
            resting++;
            running = 0;
        }

        private static int restGain(int degrees) {
            if (degrees < -30) {
                return 10;
            }
            return degrees > -5 ? 12 : 15;
        }

        private void goOn(Trail trail, int step) {
            int hard = trail.hardness[legNumber];
            if (onLeg == 0 && awayFrom[legNumber] == NONE) {
                awayFrom[legNumber] = step;
            }
            running++;
            resting = 0;
            dogs.lose(6 + loadNow() / 40 + hard / 25 + heatLoss(trail.coldIn(step)));
            if (dogs.pulling == 0) {
                status = OUT;
                return;
            }
            onLeg += reach(hard);
            if (onLeg >= trail.lengthOf(legNumber)) {
                arrive(trail.legs, step + 1);
            }
        }

        private static int heatLoss(int degrees) {
            return degrees > -10 ? (degrees + 10) / 3 : 0;
        }

        private int reach(int hard) {
            int pull = share(30 * dogs.meanStrength() * dogs.pulling * 100, 1000 * hard);
            return share(pull * 20, 20 * dogs.pulling + loadNow());
        }

        private void arrive(int lastPost, int in) {
            legNumber++;
            onLeg = 0;
            cameIn[legNumber] = in;
            dogs.leaveCarried(legNumber);
            if (legNumber >= lastPost) {
                status = HOME;
            }
        }
    }

    /** All that keep() keeps. (SIGNS needn't be copied: those of done STEPS never change.) */
    private static final class Race {
        private final Trail trail = new Trail();
        private final Team[] teams = new Team[MOST_TEAMS];
        private int teamCount = 0;
        private int steps = 0;
        private int signEach = 6;

        Race() {
            for (int i = 0; i < MOST_TEAMS; i++) {
                teams[i] = new Team();
            }
        }

        void copyFrom(Race other) {
            trail.copyFrom(other.trail);
            for (int i = 0; i < other.teamCount; i++) {
                teams[i].copyFrom(other.teams[i]);
            }
            teamCount = other.teamCount;
            steps = other.steps;
            signEach = other.signEach;
        }

        boolean canStep() {
            if (steps >= MOST_STEPS) {
                return false;
            }
            for (int i = 0; i < teamCount; i++) {
                if (!teams[i].isThrough()) {
                    return true;
                }
            }
            return false;
        }
    }

    /** The SIGNS of one TEAM: its way behind STEP i * EACH at i, NONE where no SIGN came. */
    private static final class SignRow {
        private int[] ways = new int[0];

        void tell(Team team, Trail trail, int step, int each) {
            if (each < 1 || step % each != 0) {
                return;
            }
            // made only now, as EACH can't change any more and tells how long it must be
            int most = (MOST_STEPS - 1) / each + 1;
            if (ways.length < most) {
                ways = Arrays.copyOf(ways, most);
            }
            boolean told = team.status != WAITS && !team.gaps.hide(step);
            ways[step / each] = told ? team.way(trail) : NONE;
        }

        private int past(int each, int steps) {
            return Math.min(ways.length, share(steps + each - 1, each));
        }

        int howMany(int each, int steps) {
            int many = 0;
            int past = past(each, steps);
            for (int i = 0; i < past; i++) {
                if (ways[i] != NONE) {
                    many++;
                }
            }
            return many;
        }

        /** The latest SIGN behind this STEP or ahead of it. */
        int latest(int each, int step) {
            for (int i = past(each, step + 1) - 1; i >= 0; i--) {
                if (ways[i] != NONE) {
                    return i;
                }
            }
            return NONE;
        }

        /** The next SIGN behind a later STEP, of as many STEPS as were done. */
        int next(int each, int step, int steps) {
            int past = past(each, steps);
            for (int i = share(step, each) + 1; i < past; i++) {
                if (ways[i] != NONE) {
                    return i;
                }
            }
            return NONE;
        }
    }
}
