import java.util.ArrayList;
import java.util.Arrays;
import java.util.List;
import java.util.Random;
import java.util.regex.Matcher;
import java.util.regex.Pattern;

/** Long runs of calls by chance (of fixed seeds), each answer held against a slow second model of the document. */
public final class ModelTest {
    private static final int RUNS = 400;

    public static void main(String[] args) {
        for (int seed = 1; seed <= RUNS; seed++) {
            new Player(seed).play(512);
        }
        Checks.end("ModelTest");
    }

    /** What a text says, or its FAULT. */
    static final class Parsed {
        int fault = 0;
        int place = -1;
        List<List<String>> parts = new ArrayList<>();

        private static final Pattern TOKEN = Pattern.compile("[a-z]+|[0-9]+|[<>;]|[^ \n]", Pattern.DOTALL);
        private static final List<String> NAMES = Arrays.asList("run", "rest", "weak", "mean", "cold", "meals",
            "dogs", "left", "hour", "post", "load");
        private static final List<String> ACTS = Arrays.asList("go", "stay", "feed", "leave");

        /** The state before each TOKEN tells which ones may come; the parts are RULES or LAWS. */
        static Parsed of(String text, boolean isPlan, int lawsBefore) {
            Parsed made = new Parsed();
            Matcher matcher = TOKEN.matcher(text);
            String state = isPlan ? "rule" : "law";
            List<String> part = null;
            while (matcher.find()) {
                String token = matcher.group();
                String next = isPlan ? afterPlan(state, token) : afterLaw(state, token, part);
                boolean first = state.equals("rule") || state.equals("law");
                if (next.equals("fault 1") || next.equals("fault 2")) {
                    return made.failed(next.equals("fault 1") ? 1 : 2, matcher.start());
                }
                if (first && made.parts.size() + (isPlan ? 0 : lawsBefore) == (isPlan ? 12 : 10)) {
                    return made.failed(3, matcher.start());
                }
                if (first) {
                    part = new ArrayList<>();
                    made.parts.add(part);
                }
                if (state.equals("name") && tests(part) == 4) {
                    return made.failed(3, matcher.start());
                }
                if (!token.equals(";")) {
                    part.add(token);
                }
                state = next;
            }
            return state.equals("end") ? made : made.failed(1, text.length());
        }

        private Parsed failed(int why, int at) {
            fault = why;
            place = at;
            parts.clear();
            return this;
        }

        static int tests(List<String> rule) {
            int many = 0;
            for (String token : rule) {
                many += token.equals("<") || token.equals(">") ? 1 : 0;
            }
            return many;
        }

        private static boolean isNumber(String token) {
            return token.matches("[0-9]{1,4}");
        }

        private static String afterPlan(String state, String token) {
            boolean act = ACTS.contains(token);
            switch (state) {
                case "rule":
                    return act ? "end" : token.equals("when") ? "name" : "fault 1";
                case "name":
                    if (NAMES.contains(token)) {
                        return "sign";
                    }
                    return token.matches("[a-z]{1,8}") && !act && !token.equals("when") && !token.equals("and")
                        ? "fault 2" : "fault 1";
                case "sign":
                    return token.equals("<") || token.equals(">") ? "number" : "fault 1";
                case "number":
                    return isNumber(token) ? "tested" : "fault 1";
                case "tested":
                    return act ? "end" : token.equals("and") ? "name" : "fault 1";
                default:
                    return token.equals(";") ? "rule" : "fault 1";
            }
        }

        private static String afterLaw(String state, String token, List<String> law) {
            switch (state) {
                case "law":
                    return Arrays.asList("rest", "dogs", "fine").contains(token) ? "first" : "fault 1";
                case "first":
                    if (!isNumber(token)) {
                        return "fault 1";
                    }
                    return law.get(0).equals("dogs") ? "end" : law.get(0);
                case "rest":
                    return token.equals("at") ? "last" : token.equals("from") ? "from" : "fault 1";
                case "fine":
                    return token.equals("for") ? "last" : "fault 1";
                case "from":
                    return isNumber(token) ? "to" : "fault 1";
                case "to":
                    return token.equals("to") ? "last" : "fault 1";
                case "last":
                    return isNumber(token) ? "end" : "fault 1";
                default:
                    return token.equals(";") ? "law" : "fault 1";
            }
        }
    }

    /** A TEAM as the model has it; every way behind every STEP is kept. */
    static final class Sled {
        int dogs;
        int load;
        int firstMeals;
        int start;
        int plan;
        int strength = 1000;
        List<int[]> left = new ArrayList<>();
        int meals;
        int leg = 0;
        int on = 0;
        int run = 0;
        int rest = 0;
        int did = -1;
        boolean isOut = false;
        boolean begun = false;
        int[] in = new int[14];
        int[] away = new int[14];
        List<int[]> gaps = new ArrayList<>();
        List<int[]> signs = new ArrayList<>();

        Sled(int dogs, int load, int meals, int start, int plan) {
            this.dogs = dogs;
            this.load = load;
            this.firstMeals = meals;
            this.meals = meals;
            this.start = start;
            this.plan = plan;
            Arrays.fill(in, -1);
            Arrays.fill(away, -1);
        }

        Sled copy() {
            Sled made = new Sled(dogs, load, firstMeals, start, plan);
            made.strength = strength;
            made.left = new ArrayList<>(left);
            made.meals = meals;
            made.leg = leg;
            made.on = on;
            made.run = run;
            made.rest = rest;
            made.did = did;
            made.isOut = isOut;
            made.begun = begun;
            made.in = in.clone();
            made.away = away.clone();
            made.gaps = new ArrayList<>(gaps);
            made.signs = new ArrayList<>(signs);
            return made;
        }

        int pulling() {
            return isOut ? 0 : dogs - left.size();
        }

        int carried() {
            return isOut ? dogs - left.size() : 0;
        }

        int status(int legs) {
            return !begun ? 0 : isOut ? 3 : leg == legs ? 2 : 1;
        }
    }

    /** All of the document but the TROUBLE, which is worked out as refusals are told. */
    static final class Model {
        List<int[]> legs = new ArrayList<>();
        int[] cold = new int[334];
        List<Sled> sleds = new ArrayList<>();
        int each = 6;
        int steps = 0;

        Model() {
            Arrays.fill(cold, -20);
        }

        Model copy() {
            Model made = new Model();
            made.legs = new ArrayList<>(legs);
            made.cold = cold.clone();
            for (Sled sled : sleds) {
                made.sleds.add(sled.copy());
            }
            made.each = each;
            made.steps = steps;
            return made;
        }

        int whole() {
            int all = 0;
            for (int[] leg : legs) {
                all += leg[0];
            }
            return all;
        }

        int way(Sled sled) {
            int all = sled.on;
            for (int i = 0; i < sled.leg; i++) {
                all += legs.get(i)[0];
            }
            return all;
        }

        int value(String name, Sled s, int step) {
            switch (name) {
                case "run": return s.run;
                case "rest": return s.rest;
                case "weak":
                case "mean": return s.strength;
                case "cold": return cold[step / 6] + 100;
                case "meals": return s.meals;
                case "dogs": return s.pulling();
                case "left": return legs.get(s.leg)[0] - s.on;
                case "hour": return step % 144 / 6;
                case "post": return s.on == 0 ? s.leg : 99;
                default: return s.load;
            }
        }

        boolean holds(List<String> rule, Sled s, int step) {
            for (int i = 0; i < rule.size(); i++) {
                int number = i + 1 < rule.size() && i > 0 && rule.get(i).matches("[<>]")
                    ? Integer.parseInt(rule.get(i + 1)) : -1;
                if (number >= 0) {
                    int value = value(rule.get(i - 1), s, step);
                    if (rule.get(i).equals("<") ? !(value < number) : !(value > number)) {
                        return false;
                    }
                }
            }
            return true;
        }

        void step(Sled s, List<List<String>> plan, int step) {
            if (step == s.start) {
                s.begun = true;
                s.in[0] = step;
            }
            if (s.status(legs.size()) != 1) {
                return;
            }
            s.did = 100;
            String act = "go";
            for (int i = 0; i < plan.size() && s.did == 100; i++) {
                if (holds(plan.get(i), s, step)) {
                    s.did = i;
                    act = plan.get(i).get(plan.get(i).size() - 1);
                }
            }
            int degrees = cold[step / 6];
            if (act.equals("go")) {
                go(s, degrees, step);
                return;
            }
            s.run = 0;
            s.rest++;
            if (act.equals("feed") && s.meals > 0) {
                s.meals--;
                s.strength = Math.min(1000, s.strength + 120);
            }
            if (act.equals("leave") && s.on == 0 && s.pulling() > 1) {
                s.left.add(new int[] {s.strength, s.leg});
            }
            s.strength = Math.min(1000, s.strength + (degrees < -30 ? 10 : degrees > -5 ? 12 : 15));
        }

        private void go(Sled s, int degrees, int step) {
            int hard = legs.get(s.leg)[1];
            s.rest = 0;
            s.run++;
            if (s.on == 0 && s.away[s.leg] < 0) {
                s.away[s.leg] = step;
            }
            int loss = 6 + s.load / 40 + hard / 25;
            for (int d = -7; d <= degrees; d += 3) {
                loss++;
            }
            s.strength = Math.max(0, s.strength - loss);
            if (s.strength == 0) {
                s.isOut = true;
                return;
            }
            int pull = 30 * s.strength * s.pulling() * 100 / (1000 * hard);
            s.on += pull * 20 / (20 * s.pulling() + s.load);
            if (s.on >= legs.get(s.leg)[0]) {
                s.leg++;
                s.on = 0;
                s.in[s.leg] = step + 1;
            }
        }

        void all(List<List<List<String>>> plans) {
            for (Sled s : sleds) {
                step(s, plans.get(s.plan), steps);
                boolean hidden = steps % each != 0 || !s.begun;
                for (int[] gap : s.gaps) {
                    hidden |= gap[0] <= steps && steps <= gap[1];
                }
                if (!hidden) {
                    s.signs.add(new int[] {steps, way(s)});
                }
            }
            steps++;
        }

        boolean open() {
            for (Sled s : sleds) {
                if (s.status(legs.size()) < 2) {
                    return steps < 2000;
                }
            }
            return false;
        }

        int spot(Sled s, int step, boolean most) {
            int[] before = null;
            int[] behind = null;
            for (int[] sign : s.signs) {
                if (sign[0] <= step) {
                    before = sign;
                } else if (behind == null) {
                    behind = sign;
                }
            }
            if (most) {
                int a = behind == null ? whole() : behind[1];
                int b = before != null ? before[1] + 60 * (step - before[0])
                    : step < s.start ? 0 : 60 * (step - s.start + 1);
                return a < b ? a : b;
            }
            int a = before == null ? 0 : before[1];
            int b = behind == null ? 0 : behind[1] - 60 * (behind[0] - step);
            return a > b ? a : b;
        }

        int lacks(Sled s, List<String> law) {
            int wanted = Integer.parseInt(law.get(1));
            if (law.get(0).equals("fine")) {
                return 0;
            }
            if (law.get(0).equals("dogs")) {
                return Math.max(0, wanted - s.pulling());
            }
            int from = Integer.parseInt(law.get(3));
            int to = Integer.parseInt(law.get(law.size() > 5 ? 5 : 3));
            if (from > to || from > legs.size() || to > legs.size()) {
                return 0;
            }
            int least = Integer.MAX_VALUE;
            for (int post = from; post <= to; post++) {
                int less = post == legs.size() ? 0 : Math.max(0, wanted - (s.away[post] - s.in[post]));
                least = Math.min(least, less);
            }
            return least;
        }

        int result(Sled s, List<List<String>> laws) {
            int[] fine = {2, 60};
            for (List<String> law : laws) {
                if (law.get(0).equals("fine")) {
                    fine = new int[] {Integer.parseInt(law.get(1)), Integer.parseInt(law.get(3))};
                }
            }
            int all = s.in[legs.size()] - s.start;
            for (List<String> law : laws) {
                all += lacks(s, law) * fine[law.get(0).equals("dogs") ? 1 : 0];
            }
            return all;
        }
    }

    /** Makes calls, and holds the answers of the class against the model. */
    static final class Player {
        private final Random random;
        private final int seed;
        private final SledHouse x = new SledHouse();
        private Model m = new Model();
        private Model kept = null;
        private final StringBuilder tape = new StringBuilder();
        private final List<List<List<String>>> plans = new ArrayList<>();
        private final List<List<String>> laws = new ArrayList<>();
        private int trouble = 0;
        private int fault = 0;
        private int place = -1;
        private final boolean eager;

        Player(int seed) {
            this.seed = seed;
            random = new Random(seed);
            eager = seed % 3 != 0;
        }

        private void due(String call, int got, int want) {
            Checks.due("seed " + seed + ", " + call, got, want);
        }

        private void due(String call, boolean got, boolean want) {
            due(call, got ? 1 : 0, want ? 1 : 0);
        }

        private int no(int why) {
            trouble = why;
            return -1;
        }

        private int yes(int answer) {
            trouble = 0;
            return answer;
        }

        /** Mostly a number in its bounds, at times at their edge or beyond. */
        private int pick(int least, int most) {
            int kind = random.nextInt(40);
            switch (kind) {
                case 0: return least - 1;
                case 1: return most + 1;
                case 2: return least;
                case 3: return most;
                case 4: return random.nextInt(20) == 0 ? Integer.MIN_VALUE : most;
                case 5: return random.nextInt(20) == 0 ? Integer.MAX_VALUE : least;
                default: return least + random.nextInt(most - least + 1);
            }
        }

        private boolean in(int number, int least, int most) {
            return least <= number && number <= most;
        }

        void play(int calls) {
            int made = 0;
            int wrong = Checks.wrongSoFar();
            // behind a first wrong answer the model and the class go different ways
            while (made < calls && Checks.wrongSoFar() == wrong) {
                if (eager && made < 40) {
                    setUp(random.nextInt(6));
                } else if (random.nextInt(5) < 2) {
                    change(random.nextInt(14));
                } else {
                    ask(random.nextInt(14));
                }
                made++;
                due("trouble()", x.trouble(), trouble);
                due("where()", x.where(), trouble == 4 ? place : -1);
                due("fault()", x.fault(), fault);
            }
        }

        private void setUp(int kind) {
            switch (kind) {
                case 0: leg(); break;
                case 1: text(true); break;
                case 2: team(); break;
                case 3: text(random.nextInt(4) > 0); break;
                case 4: cold(); break;
                default: each(); break;
            }
        }

        private void change(int kind) {
            switch (kind) {
                case 0: leg(); break;
                case 1: text(true); break;
                case 2: text(false); break;
                case 3: team(); break;
                case 4: cold(); break;
                case 5: each(); break;
                case 6: follow(); break;
                case 7: gap(); break;
                case 8: keep(); break;
                case 9: back(); break;
                default: run(); break;
            }
        }

        private void leg() {
            int a = random.nextBoolean() ? pick(10, 2000) : pick(10, 300);
            int b = pick(50, 200);
            int want = m.steps > 0 ? no(5) : !in(a, 10, 2000) || !in(b, 50, 200) ? no(2)
                : m.legs.size() == 12 ? no(3) : yes(m.legs.size() + 1);
            if (want > 0) {
                m.legs.add(new int[] {a, b});
            }
            due("leg", x.leg(a, b), want);
        }

        private void cold() {
            int a = pick(0, 333);
            int b = pick(random.nextBoolean() ? 0 : Math.max(0, Math.min(a, 333)), 333);
            int c = pick(-50, 20);
            boolean fine = in(a, 0, 333) && in(b, a, 333) && in(c, -50, 20);
            for (int hour = a; fine && hour <= b; hour++) {
                if (hour * 6 >= m.steps) {
                    m.cold[hour] = c;
                }
            }
            trouble = fine ? 0 : 2;
            due("cold", x.cold(a, b, c), fine);
        }

        private void each() {
            int a = pick(1, random.nextBoolean() ? 48 : 4);
            trouble = m.steps > 0 ? 5 : in(a, 1, 48) ? 0 : 2;
            if (trouble == 0) {
                m.each = a;
            }
            due("each", x.each(a), trouble == 0);
        }

        private void team() {
            int a = pick(4, 16);
            int b = pick(20, 300);
            int c = pick(0, 60);
            int d = pick(0, random.nextBoolean() ? 100 : 9);
            int e = pick(0, Math.max(0, plans.size() - 1));
            int want = m.steps > 0 || m.legs.isEmpty() ? no(5) : !in(e, 0, plans.size() - 1) ? no(1)
                : !in(a, 4, 16) || !in(b, 20, 300) || !in(c, 0, 60) || !in(d, 0, 100) ? no(2)
                : m.sleds.size() == 6 ? no(3) : yes(m.sleds.size());
            if (want >= 0) {
                m.sleds.add(new Sled(a, b, c, d, e));
            }
            due("team", x.team(a, b, c, d, e), want);
        }

        private int someTeam() {
            return pick(0, Math.max(0, m.sleds.size() - 1));
        }

        private boolean is(int team) {
            return in(team, 0, m.sleds.size() - 1);
        }

        private void follow() {
            int a = someTeam();
            int b = pick(0, Math.max(0, plans.size() - 1));
            trouble = !is(a) || !in(b, 0, plans.size() - 1) ? 1 : m.sleds.get(a).status(m.legs.size()) > 1 ? 5 : 0;
            if (trouble == 0) {
                m.sleds.get(a).plan = b;
            }
            due("follow", x.follow(a, b), trouble == 0);
        }

        private void gap() {
            int a = someTeam();
            int b = pick(0, random.nextBoolean() ? 2000 : 100);
            int c = random.nextInt(3) > 0 && in(b, 0, 2000) ? pick(b, 2000) : pick(0, 2000);
            int want = !is(a) ? no(1) : b < 0 || c > 2000 || c < b ? no(2)
                : m.sleds.get(a).gaps.size() == 4 ? no(3) : yes(m.sleds.get(a).gaps.size() + 1);
            if (want > 0) {
                m.sleds.get(a).gaps.add(new int[] {b, c});
            }
            due("gap", x.gap(a, b, c), want);
        }

        private void keep() {
            kept = m.copy();
            due("keep", x.keep(), true);
        }

        private void back() {
            trouble = kept == null ? 1 : 0;
            if (kept != null) {
                m = kept.copy();
            }
            due("back", x.back(), kept != null);
        }

        private void run() {
            int n = random.nextInt(3) == 0 ? pick(1, 500) : pick(1, 20);
            int want = 0;
            if (!m.open()) {
                want = no(5);
            } else if (!in(n, 1, 500)) {
                want = no(2);
            } else {
                while (want < n && m.open()) {
                    m.all(plans);
                    want++;
                }
                trouble = 0;
            }
            due("run(" + n + ")", x.run(n), want);
        }

        private void text(boolean isPlan) {
            String text = isPlan ? Texts.plan(random) : Texts.laws(random);
            int before = tape.length();
            if (random.nextInt(8) > 0 || before == 0) {
                StringBuilder padded = new StringBuilder(text);
                while (padded.length() % 20 != 0) {
                    padded.append(' ');
                }
                for (int i = 0; i < padded.length(); i += 20) {
                    feed(padded.substring(i, i + 20));
                }
            }
            if (random.nextInt(12) == 0) {
                return;
            }
            int n = random.nextInt(10) == 0 ? pick(0, 400) : Math.min(text.length() + before, tape.length());
            read(n, isPlan);
        }

        private void feed(String twenty) {
            int[] words = new int[5];
            for (int i = 0; i < 20; i++) {
                words[i / 4] = words[i / 4] << 8 | twenty.charAt(i);
            }
            int want = tape.length() == 400 ? -1 : tape.length() + 20;
            if (want > 0) {
                tape.append(twenty);
            }
            due("feed", x.feed(words[0], words[1], words[2], words[3], words[4]), want);
        }

        private void read(int n, boolean isPlan) {
            int want;
            String text = "";
            if (!in(n, 0, tape.length())) {
                want = no(2);
            } else {
                text = tape.substring(0, n);
                tape.setLength(0);
                Parsed parsed = Parsed.of(text, isPlan, laws.size());
                fault = parsed.fault;
                place = parsed.place;
                if (fault != 0) {
                    want = no(4);
                } else if (isPlan) {
                    want = plans.size() == 8 ? no(3) : yes(plans.size());
                    if (want >= 0) {
                        plans.add(parsed.parts);
                    }
                } else {
                    laws.addAll(parsed.parts);
                    want = yes(laws.size());
                }
            }
            due((isPlan ? "plan " : "laws ") + text, isPlan ? x.plan(n) : x.laws(n), want);
        }

        private void ask(int kind) {
            switch (kind) {
                case 0:
                case 1: about(); break;
                case 2: dog(); break;
                case 3: time(); break;
                case 4: results(); break;
                case 5: places(); break;
                case 6: came(); break;
                case 7:
                case 8:
                case 9: spots(); break;
                case 10:
                case 11: replay(); break;
                case 12: texts(); break;
                default: counts(); break;
            }
        }

        private void about() {
            int t = someTeam();
            for (int what = -1; what <= 13; what++) {
                int want = -1;
                if (is(t)) {
                    Sled s = m.sleds.get(t);
                    int[] all = {-1, s.status(m.legs.size()), s.leg, s.on, m.way(s), s.pulling(), s.carried(),
                        s.left.size(), s.load + 25 * s.carried(), s.meals, s.run, s.rest, s.plan, s.start, -1};
                    want = all[what + 1];
                }
                due("about(" + t + ", " + what + ")", x.about(t, what), want);
            }
            due("did", x.did(t), is(t) ? m.sleds.get(t).did : -1);
        }

        private void dog() {
            int t = someTeam();
            int d = pick(0, 15);
            int what = pick(0, 2);
            int want = -1;
            if (is(t) && in(d, 0, m.sleds.get(t).dogs - 1) && in(what, 0, 2)) {
                Sled s = m.sleds.get(t);
                // all are as strong, so the least numbers are left first
                boolean left = d < s.left.size();
                int[] all = {left ? s.left.get(d)[0] : s.strength, left ? 2 : s.isOut ? 1 : 0,
                    left ? s.left.get(d)[1] : -1};
                want = all[what];
            }
            due("dog", x.dog(t, d, what), want);
        }

        private void time() {
            int t = someTeam();
            int post = pick(0, m.legs.size());
            boolean away = random.nextBoolean();
            int want = -1;
            if (is(t) && in(post, 0, m.legs.size())) {
                want = away ? m.sleds.get(t).away[post] : m.sleds.get(t).in[post];
            }
            due("time", x.time(t, post, away), want);
        }

        private boolean isHome(int t) {
            return is(t) && m.sleds.get(t).status(m.legs.size()) == 2;
        }

        private void results() {
            int t = someTeam();
            due("result", x.result(t), isHome(t) ? m.result(m.sleds.get(t), laws) : -1);
            int i = pick(0, Math.max(0, laws.size() - 1));
            boolean told = isHome(t) && in(i, 0, laws.size() - 1);
            due("lacks", x.lacks(t, i), told ? m.lacks(m.sleds.get(t), laws.get(i)) : -1);
        }

        private void places() {
            List<int[]> order = new ArrayList<>();
            int[] group = {2, 1, 0, 3};
            for (int t = 0; t < m.sleds.size(); t++) {
                Sled s = m.sleds.get(t);
                int status = s.status(m.legs.size());
                int by = status == 2 ? m.result(s, laws) : status == 1 ? -m.way(s) : 0;
                order.add(new int[] {group[status], by, t});
            }
            order.sort((a, b) -> a[0] != b[0] ? a[0] - b[0] : a[1] != b[1] ? a[1] - b[1] : a[2] - b[2]);
            for (int i = -1; i <= order.size(); i++) {
                due("place(" + i + ")", x.place(i), in(i, 0, order.size() - 1) ? order.get(i)[2] : -1);
            }
        }

        private void came() {
            int post = pick(0, m.legs.size());
            int step = pick(0, Math.max(1, m.steps));
            int want = in(post, 0, m.legs.size()) ? 0 : -1;
            for (Sled s : m.sleds) {
                if (want >= 0 && s.in[post] >= 0 && s.in[post] <= step) {
                    want++;
                }
            }
            due("came", x.came(post, step), want);
        }

        private void spots() {
            int t = someTeam();
            int step = pick(0, Math.max(1, m.steps - 1));
            for (int i = 0; i < 2; i++) {
                boolean told = is(t) && in(step, 0, m.steps - 1);
                due("spot", x.spot(t, step, i == 1), told ? m.spot(m.sleds.get(t), step, i == 1) : -1);
            }
            due("signs", x.signs(t), is(t) ? m.sleds.get(t).signs.size() : -1);
        }

        private void replay() {
            int t = someTeam();
            int p = pick(0, Math.max(0, plans.size() - 1));
            int first = pick(0, 3);
            for (int what = first; what < 4 && what >= first; what++) {
                int want;
                if (!is(t) || !in(p, 0, plans.size() - 1)) {
                    want = no(1);
                } else if (!in(what, 0, 3)) {
                    want = no(2);
                } else {
                    Sled s = m.sleds.get(t);
                    Sled other = new Sled(s.dogs, s.load, s.firstMeals, s.start, p);
                    for (int step = 0; step < m.steps; step++) {
                        m.step(other, plans.get(p), step);
                    }
                    int[] all = {m.way(other), other.pulling(), other.status(m.legs.size()), other.in[m.legs.size()]};
                    want = yes(all[what]);
                }
                due("replay", x.replay(t, p, what), want);
                if (what < 0) {
                    return;
                }
            }
        }

        private void texts() {
            int i = pick(0, Math.max(0, laws.size() - 1));
            int what = pick(0, 3);
            int want = -1;
            if (in(i, 0, laws.size() - 1) && in(what, 0, 3)) {
                List<String> law = laws.get(i);
                int kind = law.get(0).equals("dogs") ? 2 : law.get(0).equals("fine") ? 3 : law.size() > 5 ? 1 : 0;
                int at = 2 * what - 1;
                want = what == 0 ? kind : at < law.size() ? Integer.parseInt(law.get(at)) : 0;
            }
            due("law", x.law(i, what), want);
            int p = pick(0, Math.max(0, plans.size() - 1));
            int tests = 0;
            boolean told = in(p, 0, plans.size() - 1);
            for (int rule = 0; told && rule < plans.get(p).size(); rule++) {
                tests += Parsed.tests(plans.get(p).get(rule));
            }
            due("planned 0", x.planned(p, 0), told ? plans.get(p).size() : -1);
            due("planned 1", x.planned(p, 1), told ? tests : -1);
            due("planned 2", x.planned(p, 2), -1);
        }

        private void counts() {
            int[] all = {-1, m.legs.size(), m.sleds.size(), plans.size(), laws.size(), m.steps, m.whole(),
                tape.length(), -1};
            for (int what = -1; what <= 7; what++) {
                due("count(" + what + ")", x.count(what), all[what + 1]);
            }
        }
    }

    /** Texts by chance: most are right, some have a TOKEN or byte changed, left out or put in. */
    static final class Texts {
        private static final String[] TOKENS = {"when", "and", "go", "stay", "feed", "leave", "run", "rest", "weak",
            "mean", "cold", "meals", "dogs", "left", "hour", "post", "load", "<", ">", ";", "at", "from", "to", "for",
            "fine", "1", "12", "9999", "12345", "foo", "abcdefgh", "abcdefghi", "=", "A", "\n"};
        private static final String[] NAMES = {"run", "rest", "weak", "mean", "cold", "meals", "dogs", "left", "hour",
            "post", "load"};
        private static final int[] RANGES = {30, 30, 1000, 1000, 130, 10, 16, 400, 24, 13, 320};
        private static final String[] ACTS = {"go", "stay", "feed", "leave"};

        static String plan(Random random) {
            List<String> tokens = new ArrayList<>();
            int rules = 1 + (random.nextInt(8) == 0 ? random.nextInt(13) : random.nextInt(5));
            for (int i = 0; i < rules; i++) {
                if (i > 0) {
                    tokens.add(";");
                }
                rule(random, tokens, i == rules - 1);
            }
            return joined(random, tokens);
        }

        private static void rule(Random random, List<String> tokens, boolean last) {
            int tests = random.nextInt(12) == 0 ? random.nextInt(6) : random.nextInt(3);
            if (tests == 0 && !last && random.nextInt(4) > 0) {
                tests = 1;
            }
            for (int i = 0; i < tests; i++) {
                tokens.add(i == 0 ? "when" : "and");
                int name = random.nextInt(NAMES.length);
                tokens.add(NAMES[name]);
                tokens.add(random.nextBoolean() ? "<" : ">");
                tokens.add(Integer.toString(random.nextInt(RANGES[name])));
            }
            tokens.add(random.nextInt(3) == 0 || last ? "go" : ACTS[random.nextInt(4)]);
        }

        static String laws(Random random) {
            List<String> tokens = new ArrayList<>();
            int laws = 1 + (random.nextInt(8) == 0 ? random.nextInt(11) : random.nextInt(3));
            for (int i = 0; i < laws; i++) {
                String text;
                int a = random.nextInt(random.nextInt(9) == 0 ? 10000 : 20);
                switch (random.nextInt(4)) {
                    case 0: text = "rest " + a + " at " + random.nextInt(14); break;
                    case 1: text = "rest " + a + " from " + random.nextInt(14) + " to " + random.nextInt(14); break;
                    case 2: text = "dogs " + a; break;
                    default: text = "fine " + a + " for " + random.nextInt(100); break;
                }
                if (i > 0) {
                    tokens.add(";");
                }
                tokens.addAll(Arrays.asList(text.split(" ")));
            }
            return joined(random, tokens);
        }

        private static String joined(Random random, List<String> tokens) {
            int harm = random.nextInt(12);
            int at = random.nextInt(tokens.size());
            String other = TOKENS[random.nextInt(TOKENS.length)];
            if (harm == 0) {
                tokens.set(at, other);
            } else if (harm == 1) {
                tokens.add(at, other);
            } else if (harm == 2) {
                tokens.remove(at);
            }
            StringBuilder text = new StringBuilder();
            for (String token : tokens) {
                boolean tight = random.nextBoolean() && text.length() > 0
                    && Character.isLetter(text.charAt(text.length() - 1)) != Character.isLetter(token.charAt(0))
                    && Character.isDigit(text.charAt(text.length() - 1)) != Character.isDigit(token.charAt(0));
                text.append(tight || text.length() == 0 ? "" : random.nextInt(9) == 0 ? "\n " : " ").append(token);
            }
            if (harm == 3 && text.length() > 0) {
                text.setCharAt(random.nextInt(text.length()), (char) random.nextInt(256));
            }
            return text.toString();
        }
    }
}
