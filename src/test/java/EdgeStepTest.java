/** The edges of terms II, III (NAMES) and IV and of promises 10, 13 to 17: follow, run, about, dog, time, did. */
public final class EdgeStepTest {
    private static final int[] FAR = {-1, Integer.MIN_VALUE, Integer.MAX_VALUE};

    public static void main(String[] args) {
        runBounds();
        runRefusals();
        runUntilOver();
        endOfTime();
        testsAreStrict();
        hourOfTheDay();
        postsAndLeft();
        colds();
        weakAndMean();
        mealsDogsLoad();
        runAndRest();
        numbersAtTheirEnds();
        allTests();
        noRule();
        eachAct();
        feeding();
        leaving();
        weakest();
        stayInCold();
        neverAbove();
        losses();
        warmLoss();
        neverBelow();
        lengths();
        atTheCheckpoint();
        endOfLeg();
        noLength();
        out();
        comesIn();
        goesAway();
        hourOfStep();
        startIsThisStep();
        follows();
        followRefusals();
        abouts();
        dogParts();
        times();
        dids();
        Checks.end("EdgeStepTest");
    }

    private static SledHouse house(String plan, int... team) {
        SledHouse x = Checks.house(Checks.legs(2000, 100), plan);
        Checks.granted(x, "team", x.team(team[0], team[1], team[2], team[3], 0), 0);
        return x;
    }

    private static SledHouse plain(String plan) {
        return house(plan, 4, 20, 0, 0);
    }

    private static void runBounds() {
        Checks.sentence("n STEPS (1 .. 500) are done");
        SledHouse x = plain("stay");
        Checks.granted(x, "run(1)", x.run(1), 1);
        Checks.granted(x, "run(500)", x.run(500), 500);
        Checks.due("STEPS", x.count(4), 501);
        for (int n : new int[] {0, -1, 501, Integer.MIN_VALUE, Integer.MAX_VALUE}) {
            Twins.refused(Houses::laid, "run(" + n + ")", y -> y.run(n), 2);
            Twins.refused(Houses::racing, "run(" + n + ")", y -> y.run(n), 2);
        }
    }

    private static void runRefusals() {
        Checks.sentence("NONE: 5 (no TEAM, or none could be done); 2.");
        Twins.refused(SledHouse::new, "no LEG, no TEAM", x -> x.run(1), 5);
        Twins.refused(() -> Checks.house(Checks.legs(10, 50), "go"), "no TEAM", x -> x.run(1), 5);
        Twins.refused(Houses::over, "none WAITS or is ON", x -> x.run(1), 5);
        Twins.refused(Houses::late, "no STEP is left", x -> x.run(1), 5);
        for (int n : new int[] {0, 501}) {
            Twins.refused(SledHouse::new, "5 ahead of 2", x -> x.run(n), 5);
            Twins.refused(Houses::over, "5 ahead of 2", x -> x.run(n), 5);
            Twins.refused(Houses::late, "5 ahead of 2", x -> x.run(n), 5);
        }
    }

    private static void runUntilOver() {
        Checks.sentence("as long as some TEAM WAITS or is ON and the STEP is below 2,000: how many were.");
        SledHouse x = Checks.house(Checks.legs(23, 100), "go");
        x.team(4, 20, 0, 0, 0);
        x.team(4, 20, 0, 40, 0);
        Checks.granted(x, "run(40)", x.run(40), 40);
        Checks.due("one is HOME", x.about(0, 0), 2);
        Checks.due("one WAITS, so it goes on", x.about(1, 0), 0);
        Checks.granted(x, "run(2)", x.run(2), 1);
        Checks.refused(x, "both are HOME", x.run(1), 5);
        Checks.due("STEPS", x.count(4), 41);
        // the last STEP that is asked for is the one that ends the race
        x = Checks.house(Checks.legs(23, 100), "go");
        x.team(4, 20, 0, 4, 0);
        Checks.granted(x, "run(5)", x.run(5), 5);
        Checks.refused(x, "run(1)", x.run(1), 5);
    }

    private static void endOfTime() {
        Checks.sentence("TIME goes in STEPS of ten minutes, from 0 to 2,000.");
        SledHouse x = plain("stay");
        for (int i = 0; i < 3; i++) {
            Checks.granted(x, "run(500)", x.run(500), 500);
        }
        Checks.granted(x, "run(499)", x.run(499), 499);
        Checks.granted(x, "STEP 1999", x.run(1), 1);
        Checks.refused(x, "STEP 2000", x.run(1), 5);
        Checks.due("STEPS", x.count(4), 2000);
        Checks.due("REST", x.about(0, 10), 2000);
        Checks.due("it is still ON", x.about(0, 0), 1);
        // HOME by the very last STEP
        x = plain("stay");
        Checks.plan(x, "go");
        x.run(500);
        x.run(500);
        x.run(500);
        x.run(499);
        x.follow(0, 1);
        Checks.granted(x, "run(500)", x.run(500), 1);
        Checks.due("AWAY", x.time(0, 0, true), 1999);
        Checks.due("its way", x.about(0, 3), 23);
    }

    /** Whether a TEST holds in the second STEP of a TEAM, behind a first one of go. */
    private static boolean holds(String test) {
        SledHouse x = house("when run < 1 go; when " + test + " stay; go", 7, 130, 3, 0);
        x.cold(0, 0, -33);
        x.run(2);
        return x.did(0) == 1;
    }

    private static void testsAreStrict() {
        Checks.sentence("TEST: NAME < NUMBER or NAME > NUMBER.");
        // loss 6 + 3 + 4 = 13; 30 * 987 * 7 * 100 / 100000 = 207; * 20 / 270 = 15
        String[] names = {"run", "rest", "weak", "mean", "cold", "meals", "dogs", "left", "hour", "post", "load"};
        int[] values = {1, 0, 987, 987, 67, 3, 7, 1985, 0, 99, 130};
        for (int i = 0; i < names.length; i++) {
            Checks.due(names[i] + " < itself", holds(names[i] + " < " + values[i]), false);
            Checks.due(names[i] + " < one more", holds(names[i] + " < " + (values[i] + 1)), true);
            Checks.due(names[i] + " > itself", holds(names[i] + " > " + values[i]), false);
            if (values[i] > 0) {
                Checks.due(names[i] + " > one less", holds(names[i] + " > " + (values[i] - 1)), true);
            }
        }
    }

    private static void hourOfTheDay() {
        Checks.sentence("hour (of the day: 0 .. 23)");
        SledHouse x = plain("when hour < 1 stay; when hour > 22 stay; feed");
        int[][] want = {{1, 0}, {6, 0}, {7, 2}, {138, 2}, {139, 1}, {144, 1}, {145, 0}, {150, 0}, {151, 2},
            {282, 2}, {283, 1}, {288, 1}, {289, 0}, {294, 0}, {295, 2}};
        for (int[] one : want) {
            x.run(one[0] - x.count(4));
            Checks.due("did in STEP " + (one[0] - 1), x.did(0), one[1]);
        }
        // STEP 1999 is of hour 333, the 21st of its day
        x = plain("when hour > 20 and hour < 22 stay; feed");
        for (int i = 0; i < 3; i++) {
            x.run(500);
        }
        x.run(498);
        Checks.due("did in STEP 1997", x.did(0), 1);
        x.run(2);
        Checks.due("did in STEP 1999", x.did(0), 0);
    }

    private static void postsAndLeft() {
        Checks.sentence("left (LENGTHS up to the next checkpoint)");
        SledHouse x = Checks.house(Checks.legs(40, 100, 50, 100), "when left < 41 and left > 39 and rest < 1 stay; go");
        x.team(4, 20, 0, 0, 0);
        x.run(1);
        Checks.due("all of the first LEG", x.did(0), 0);
        x.follow(0, Checks.plan(x, "when left > 17 and left < 50 stay; go"));
        x.run(1);
        Checks.due("40 again", x.did(0), 0);
        x.follow(0, 0);
        x.run(1);
        Checks.due("gone", x.about(0, 2), 23);
        x.follow(0, Checks.plan(x, "when left > 16 and left < 18 stay; go"));
        x.run(1);
        Checks.due("17 are left", x.did(0), 0);
        x.follow(0, Checks.plan(x, "when left > 49 and left < 51 stay; go"));
        x.run(2);
        Checks.due("all of the second", x.did(0), 0);

        Checks.sentence("post (at which checkpoint it is; 99 where it is at none)");
        x = new SledHouse();
        for (int i = 0; i < 12; i++) {
            x.leg(i == 11 ? 100 : 10, 50);
        }
        Checks.plan(x, "when post < 1 go; when post > 0 and post < 11 go; when post > 10 and post < 12 go;"
            + "when post > 98 and post < 100 stay; feed");
        x.team(4, 20, 0, 0, 0);
        int[] did = {0, 1, 1, 1, 1, 1, 1, 1, 1, 1, 1, 2, 3, 3};
        for (int step = 0; step < did.length; step++) {
            x.run(1);
            Checks.due("did in STEP " + step, x.did(0), did[step]);
        }
    }

    private static void colds() {
        Checks.sentence("cold (with 100 more)");
        for (int degrees : new int[] {-50, -1, 0, 1, 20}) {
            int value = degrees + 100;
            SledHouse x = plain("when cold > " + (value - 1) + " and cold < " + (value + 1) + " stay; go");
            x.cold(0, 0, degrees);
            x.run(1);
            Checks.due("COLD " + degrees, x.did(0), 0);
        }
    }

    /** One that was left with less STRENGTH than those that pull counts in neither. */
    private static void weakAndMean() {
        Checks.sentence("weak (the least STRENGTH of DOGS that pull), mean (their mean, downwards)");
        for (String name : new String[] {"weak", "mean"}) {
            for (int value = 999; value <= 1001; value++) {
                SledHouse x = plain("when " + name + " < " + value + " stay; feed");
                x.run(1);
                Checks.due(name + " < " + value + " at first", x.did(0), value == 1001 ? 0 : 1);
            }
            SledHouse x = Checks.house(Checks.legs(46, 100, 100, 100), "when run < 2 and rest < 1 go; leave",
                "when " + name + " > 994 and " + name + " < 996 stay; feed");
            x.team(4, 20, 0, 0, 0);
            x.run(3);
            Checks.due("the left one", x.dog(0, 0, 0), 980);
            x.follow(0, 1);
            x.run(1);
            Checks.due(name + " is that of the others", x.did(0), 0);
        }
        // of one DOG alone
        SledHouse y = plain("when dogs > 1 leave; when mean > 999 and mean < 1001 and weak > 999 and weak < 1001 stay; go");
        y.run(4);
        Checks.due("that pull", y.about(0, 4), 1);
        Checks.due("its own", y.did(0), 1);
        // the least there is: HARDNESS 75 costs 9, so 1 is left behind 111 STEPS
        SledHouse x = Checks.house(Checks.legs(2000, 75), "when weak < 2 and weak > 0 and mean < 2 and mean > 0 stay; go");
        x.team(4, 20, 0, 0, 0);
        x.run(111);
        Checks.due("it went", x.did(0), 1);
        x.run(1);
        Checks.due("it stays with 1", x.did(0), 0);
    }

    private static void mealsDogsLoad() {
        Checks.sentence("meals, dogs (that pull)");
        SledHouse x = house("when meals > 59 feed; when meals > 58 feed; when dogs > 15 leave; when dogs > 14 leave;"
            + "when dogs < 15 and dogs > 13 and meals < 59 and meals > 57 stay; go", 16, 300, 60, 0);
        for (int rule = 0; rule < 5; rule++) {
            x.run(1);
            Checks.due("did", x.did(0), rule);
        }
        x = house("when load > 299 and load < 301 stay; go", 4, 300, 0, 0);
        x.run(1);
        Checks.due("the greatest LOAD", x.did(0), 0);
        x = house("when load < 21 and load > 19 and meals < 1 stay; go", 4, 20, 0, 0);
        x.run(1);
        Checks.due("the least LOAD, no MEALS", x.did(0), 0);
    }

    private static void runAndRest() {
        Checks.sentence("(both 0 at its START)");
        for (int start : new int[] {0, 1, 100}) {
            SledHouse x = house("when run < 1 and rest < 1 stay; when rest > 0 and rest < 3 feed; go", 4, 20, 0, start);
            x.run(start + 1);
            Checks.due("at its START", x.did(0), 0);
            Checks.due("REST", x.about(0, 10), 1);
            x.run(2);
            Checks.due("REST was 2", x.did(0), 1);
            Checks.due("REST", x.about(0, 10), 3);
            Checks.due("RUN", x.about(0, 9), 0);
            x.run(1);
            Checks.due("REST was 3", x.did(0), 2);
            Checks.due("REST", x.about(0, 10), 0);
            Checks.due("RUN", x.about(0, 9), 1);
            x.run(1);
            Checks.due("RUN goes on", x.about(0, 9), 2);
        }
        Checks.sentence("RUN: STEPS that it has gone since it last did something else; REST: STEPS that it has done"
            + " something else since it last went");
        // both go on over a checkpoint
        SledHouse x = Checks.house(Checks.legs(10, 50, 10, 50, 2000, 50), "when run > 3 stay; go");
        x.team(4, 20, 0, 0, 0);
        x.run(4);
        Checks.due("RUN over two checkpoints", x.about(0, 9), 4);
        x.run(1);
        Checks.due("it stays by RUN", x.did(0), 0);
    }

    private static void numbersAtTheirEnds() {
        Checks.sentence("NUMBERS of 1 to 4 digits");
        SledHouse x = plain("when run < 0 stay; when rest > 9999 stay; when left > 9999 stay; when load < 0000 stay;"
            + "when left < 1999 stay; when left < 9999 and run < 0001 feed; go");
        x.run(1);
        Checks.due("did", x.did(0), 5);
    }

    private static void allTests() {
        Checks.sentence("the ACT of the first RULE whose TESTS all hold (go if there is none)");
        for (int wrong = 0; wrong <= 4; wrong++) {
            StringBuilder plan = new StringBuilder();
            for (int i = 0; i < 4; i++) {
                plan.append(i == 0 ? "when " : " and ").append(i == wrong ? "load > 20" : "load > 19");
            }
            SledHouse x = plain(plan + " stay; feed; leave");
            x.run(1);
            Checks.due("TEST " + wrong + " is wrong", x.did(0), wrong == 4 ? 0 : 1);
        }
        // the twelfth RULE
        SledHouse x = plain("when run>9go;".repeat(11) + "stay");
        x.run(1);
        Checks.due("did", x.did(0), 11);
        Checks.due("REST", x.about(0, 10), 1);
    }

    private static void noRule() {
        Checks.sentence("100 for none that held; NONE ahead of its first STEP, and for others.");
        SledHouse x = house("when run > 99 stay", 4, 20, 0, 2);
        Checks.due("ahead of it", x.did(0), -1);
        x.run(2);
        Checks.due("ahead of it", x.did(0), -1);
        x.run(1);
        Checks.due("none held", x.did(0), 100);
        Checks.due("go", x.about(0, 9), 1);
        for (int team : FAR) {
            Checks.due("did(" + team + ")", x.did(team), -1);
        }
        Checks.due("did(1)", x.did(1), -1);
    }

    /** Each ACT does its own and nothing of the others, where all of them could be done. */
    private static void eachAct() {
        Checks.sentence("ACT: go, stay, feed, leave.");
        String[] acts = {"go", "stay", "feed", "leave"};
        // MEALS, DOGS left, RUN, REST, STRENGTH of the last DOG (940 before), LENGTHS
        int[][] want = {{2, 0, 7, 0, 930, 22}, {2, 0, 0, 1, 955, 0}, {1, 0, 0, 1, 1000, 0}, {2, 1, 0, 1, 955, 0}};
        int[] what = {8, 6, 9, 10};
        for (int act = 0; act < 4; act++) {
            // 114 and 22 LENGTHS more in 6 STEPS of go: at checkpoint 1
            SledHouse x = Checks.house(Checks.legs(136, 100, 2000, 100), "when hour < 1 go; " + acts[act]);
            x.team(4, 20, 2, 0, 0);
            x.run(6);
            Checks.due("at checkpoint 1", x.about(0, 1), 1);
            x.run(1);
            for (int i = 0; i < 4; i++) {
                Checks.due(acts[act] + ": about(0, " + what[i] + ")", x.about(0, what[i]), want[act][i]);
            }
            Checks.due(acts[act] + ": STRENGTH", x.dog(0, 3, 0), want[act][4]);
            Checks.due(acts[act] + ": LENGTHS", x.about(0, 2), want[act][5]);
            Checks.due(acts[act] + ": AWAY", x.time(0, 1, true), act == 0 ? 6 : -1);
        }
        // what isn't done there is as stay, not as another ACT
        SledHouse x = house("when run < 1 and rest < 1 go; leave", 4, 20, 2, 0);
        x.run(2);
        Checks.due("leave elsewhere: MEALS", x.about(0, 8), 2);
        x = house("feed", 4, 20, 0, 0);
        x.run(1);
        Checks.due("feed without MEALS: DOGS left", x.about(0, 6), 0);
    }

    private static void feeding() {
        Checks.sentence("feed, with MEALS: one less; each DOG that pulls gains 120; without: as stay.");
        SledHouse x = house("when hour < 4 go; feed", 4, 20, 1, 0);
        x.run(25);
        Checks.due("the last MEAL", x.dog(0, 3, 0), 760 + 120 + 15);
        Checks.due("MEALS", x.about(0, 8), 0);
        x.run(1);
        Checks.due("without", x.dog(0, 3, 0), 895 + 15);
        Checks.due("MEALS", x.about(0, 8), 0);
        Checks.due("REST", x.about(0, 10), 2);
        x = house("feed", 4, 20, 60, 0);
        x.run(60);
        Checks.due("60 MEALS", x.about(0, 8), 0);
        x.run(1);
        Checks.due("the 61st", x.about(0, 8), 0);
        Checks.due("REST", x.about(0, 10), 61);
        Checks.due("AWAY", x.time(0, 0, true), -1);
    }

    private static void leaving() {
        Checks.sentence("leave, at a checkpoint with more than one DOG that pulls");
        SledHouse x = plain("when hour < 1 leave; when hour < 2 go; leave");
        int[] pull = {3, 2, 1, 1, 1, 1};
        for (int step = 0; step < 6; step++) {
            x.run(1);
            Checks.due("that pull behind STEP " + step, x.about(0, 4), pull[step]);
            Checks.due("left", x.about(0, 6), 4 - pull[step]);
            Checks.due("REST", x.about(0, 10), step + 1);
        }
        Checks.due("the last one isn't left", x.dog(0, 3, 1), 0);
        Checks.sentence("elsewhere as stay");
        x = plain("when run < 1 and rest < 1 go; leave");
        x.run(4);
        Checks.due("that pull", x.about(0, 4), 4);
        Checks.due("STRENGTH", x.dog(0, 0, 0), 1000);
        Checks.due("REST", x.about(0, 10), 3);
        // behind leave those that pull still gain, the one that was left doesn't
        x = Checks.house(Checks.legs(46, 100, 100, 100), "when run < 2 and rest < 1 go; leave");
        x.team(4, 20, 0, 0, 0);
        x.run(3);
        Checks.sentence("Behind feed and leave they gain so, too.");
        Checks.due("left", x.dog(0, 0, 0), 980);
        Checks.due("where", x.dog(0, 0, 2), 1);
        Checks.due("gains", x.dog(0, 1, 0), 995);
    }

    private static void weakest() {
        Checks.sentence("the weakest of these (of as weak ones the least number) is left there");
        SledHouse x = house("leave", 16, 20, 0, 0);
        for (int step = 0; step < 15; step++) {
            x.run(1);
            for (int dog = 0; dog < 16; dog++) {
                Checks.due("DOG " + dog + " behind STEP " + step, x.dog(0, dog, 1), dog <= step ? 2 : 0);
            }
        }
        Checks.due("left at the start", x.dog(0, 14, 2), 0);
        Checks.due("not left", x.dog(0, 15, 2), -1);
    }

    private static void stayInCold() {
        Checks.sentence("stay: each DOG that pulls gains 15, below -30 COLD 10, above -5 COLD 12 (never above 1,000).");
        int[][] want = {{-50, 10}, {-32, 10}, {-31, 10}, {-30, 15}, {-29, 15}, {-6, 15}, {-5, 15}, {-4, 12}, {-3, 12},
            {0, 12}, {20, 12}};
        for (int[] one : want) {
            for (String act : new String[] {"stay", "feed", "leave"}) {
                SledHouse x = plain("when hour < 1 go; " + act);
                x.cold(1, 1, one[0]);
                x.run(7);
                Checks.due(act + " at " + one[0], x.dog(0, 3, 0), 940 + one[1]);
            }
        }
    }

    private static void neverAbove() {
        Checks.sentence("(never above 1,000)");
        int[][] want = {{240, 999}, {200, 1000}, {160, 1000}};
        for (int[] one : want) {
            // LOAD 240 costs 16, 200 costs 15, 160 costs 14
            SledHouse x = house("when run < 1 and rest < 1 go; stay", 4, one[0], 0, 0);
            x.run(2);
            Checks.due("LOAD " + one[0], x.dog(0, 0, 0), one[1]);
            x.run(1);
            Checks.due("later", x.dog(0, 0, 0), 1000);
        }
        SledHouse x = house("feed", 4, 20, 2, 0);
        x.run(1);
        Checks.due("fed with 1,000", x.dog(0, 0, 0), 1000);
    }

    private static int strengthBehindGo(int load, int hardness, int degrees) {
        SledHouse x = Checks.house(Checks.legs(2000, hardness), "go");
        x.cold(0, 0, degrees);
        x.team(4, load, 0, 0, 0);
        x.run(1);
        return x.dog(0, 0, 0);
    }

    private static void losses() {
        Checks.sentence("each DOG that pulls loses 6 + LOAD / 40 + HARDNESS / 25");
        int[][] loads = {{20, 0}, {39, 0}, {40, 1}, {41, 1}, {79, 1}, {80, 2}, {279, 6}, {280, 7}, {300, 7}};
        for (int[] one : loads) {
            Checks.due("LOAD " + one[0], strengthBehindGo(one[0], 50, -20), 1000 - 6 - 2 - one[1]);
        }
        int[][] hardness = {{50, 2}, {74, 2}, {75, 3}, {99, 3}, {100, 4}, {124, 4}, {125, 5}, {199, 7}, {200, 8}};
        for (int[] one : hardness) {
            Checks.due("HARDNESS " + one[0], strengthBehindGo(20, one[0], -20), 1000 - 6 - one[1]);
        }
    }

    private static void warmLoss() {
        Checks.sentence("and 1 for each full 3 of COLD above -10 (never below 0; all divisions downwards)");
        int[][] want = {{-50, 0}, {-20, 0}, {-14, 0}, {-13, 0}, {-12, 0}, {-11, 0}, {-10, 0}, {-9, 0}, {-8, 0}, {-7, 1},
            {-6, 1}, {-5, 1}, {-4, 2}, {-1, 3}, {0, 3}, {1, 3}, {2, 4}, {16, 8}, {17, 9}, {19, 9}, {20, 10}};
        for (int[] one : want) {
            Checks.due("COLD " + one[0], strengthBehindGo(20, 100, one[0]), 990 - one[1]);
        }
    }

    private static void neverBelow() {
        Checks.sentence("DOGS with STRENGTH 0 pull no more: each is carried, 25 more to the LOAD");
        // 10 less each STEP: the hundredth takes just what is left
        SledHouse x = plain("go");
        x.run(99);
        Checks.due("STRENGTH", x.dog(0, 3, 0), 10);
        Checks.due("they pull", x.about(0, 4), 4);
        Checks.due("LOAD", x.about(0, 7), 20);
        Checks.granted(x, "run(500)", x.run(500), 1);
        Checks.due("STRENGTH", x.dog(0, 3, 0), 0);
        Checks.due("carried", x.about(0, 5), 4);
        Checks.due("LOAD", x.about(0, 7), 120);
        // HARDNESS 75 costs 9: one is left behind 111 STEPS, and still pulls
        x = Checks.house(Checks.legs(2000, 75), "go");
        x.team(4, 20, 0, 0, 0);
        x.run(111);
        Checks.due("STRENGTH", x.dog(0, 3, 0), 1);
        Checks.due("they pull", x.about(0, 4), 4);
        Checks.due("ON", x.about(0, 0), 1);
        x.run(1);
        Checks.due("never below 0", x.dog(0, 3, 0), 0);
        Checks.due("carried", x.dog(0, 3, 1), 1);
        Checks.due("left nowhere", x.dog(0, 3, 2), -1);
        Checks.due("OUT", x.about(0, 0), 3);
        // a DOG that was left stays left, and isn't carried
        x = Checks.house(Checks.legs(2000, 200), "when dogs > 15 leave; go");
        x.team(16, 300, 0, 0, 0);
        x.run(500);
        Checks.due("carried", x.about(0, 5), 15);
        Checks.due("left", x.about(0, 6), 1);
        Checks.due("LOAD", x.about(0, 7), 300 + 15 * 25);
        Checks.due("STRENGTH of the left one", x.dog(0, 0, 0), 1000);
    }

    private static int wayOf(int dogs, int load, int hardness) {
        SledHouse x = Checks.house(Checks.legs(2000, hardness), "go");
        x.team(dogs, load, 0, 0, 0);
        x.run(1);
        return x.about(0, 3);
    }

    private static void lengths() {
        Checks.sentence("LENGTHS (from the left, each division downwards; mean, DOGS and LOAD as they are then)");
        // 30 * 991 * 4 * 100 = 11892000; / 85000 = 139; * 20 = 2780; / 100 = 27
        Checks.due("HARDNESS 85", wayOf(4, 20, 85), 27);
        // 30 * 992 * 4 * 100 = 11904000; / 61000 = 195; * 20 = 3900; / 100 = 39
        Checks.due("HARDNESS 61", wayOf(4, 20, 61), 39);
        // 30 * 990 * 4 * 100 = 11880000; / 50000 = 237; * 20 = 4740; / 190 = 24 (in one division it would be 25)
        Checks.due("LOAD 110", wayOf(4, 110, 50), 24);
        // 30 * 988 * 5 * 100 = 14820000; / 120000 = 123; * 20 = 2460; / 190 = 12 (in one division it would be 13)
        Checks.due("5 DOGS", wayOf(5, 90, 120), 12);
        // the fastest: 30 * 992 * 16 * 100 = 47616000; / 50000 = 952; * 20 = 19040; / 340 = 56
        Checks.due("16 DOGS", wayOf(16, 20, 50), 56);
        // the slowest: 30 * 979 * 4 * 100 = 11748000; / 200000 = 58; * 20 = 1160; / 380 = 3
        Checks.due("LOAD 300", wayOf(4, 300, 200), 3);
    }

    private static void atTheCheckpoint() {
        Checks.sentence("so many LENGTHS from its beginning (0: at the checkpoint)");
        SledHouse x = Checks.house(Checks.legs(46, 100, 46, 100), "go", "leave");
        x.team(16, 20, 0, 0, 0);
        // 15 DOGS: 445 * 20 / 320 = 27; 14 DOGS: 415 * 20 / 300 = 27
        int[] lengths = {0, 27, 0, 27};
        for (int step = 0; step < lengths.length; step++) {
            Checks.due("LENGTHS ahead of STEP " + 2 * step, x.about(0, 2), lengths[step]);
            int left = x.about(0, 6);
            x.follow(0, 1);
            x.run(1);
            Checks.due("one is left only there", x.about(0, 6), lengths[step] == 0 ? left + 1 : left);
            x.follow(0, 0);
            x.run(1);
        }
        Checks.due("HOME", x.about(0, 0), 2);
    }

    private static void endOfLeg() {
        Checks.sentence("at the LEG's end it is at the next checkpoint (what is more is lost)");
        int[][] want = {{22, 1, 0, 22}, {23, 1, 0, 23}, {24, 0, 23, 23}};
        for (int[] one : want) {
            SledHouse x = Checks.house(Checks.legs(one[0], 100, 100, 100), "go");
            x.team(4, 20, 0, 0, 0);
            x.run(1);
            Checks.due(one[0] + ": LEG", x.about(0, 1), one[1]);
            Checks.due(one[0] + ": LENGTHS", x.about(0, 2), one[2]);
            Checks.due(one[0] + ": its way", x.about(0, 3), one[3]);
            x.run(1);
            Checks.due(one[0] + ": the next STEP", x.about(0, 2), one[1] == 1 ? 23 : 0);
            // the same at the last checkpoint
            x = Checks.house(Checks.legs(one[0], 100), "go");
            x.team(4, 20, 0, 0, 0);
            x.run(1);
            Checks.due(one[0] + ": HOME", x.about(0, 0), one[1] == 1 ? 2 : 1);
            Checks.due(one[0] + ": LEG", x.about(0, 1), one[1]);
            Checks.due(one[0] + ": its way", x.about(0, 3), one[3]);
        }
    }

    /** A TEAM at checkpoint 2 with so little STRENGTH (22) that the first go there is of no LENGTH. */
    private static SledHouse weakAtPost(int hardness, String plan) {
        int reach = weak(Checks.legs(2000, 50, 2000, 50), "go").about(0, 2);
        SledHouse x = weak(Checks.legs(2000, 50, reach, 50, 100, hardness), plan);
        Checks.due("at checkpoint 2", x.about(0, 1), 2);
        Checks.due("IN", x.time(0, 2, false), 120);
        Checks.due("AWAY", x.time(0, 2, true), -1);
        return x;
    }

    private static SledHouse weak(int[] legs, String plan) {
        SledHouse x = Checks.house(legs, plan);
        x.cold(0, 0, -1);
        x.team(16, 20, 0, 0, 0);
        x.run(120);
        Checks.due("STRENGTH", x.dog(0, 0, 0), 22);
        return x;
    }

    private static void noLength() {
        Checks.sentence("(also if that was no LENGTH, or it was OUT by it; NONE while there was none)");
        SledHouse x = weakAtPost(50, "when hour < 20 go; when rest > 0 go; when run > 120 stay; go");
        x.run(1);
        Checks.due("no LENGTH", x.about(0, 2), 0);
        Checks.due("its AWAY", x.time(0, 2, true), 120);
        Checks.due("STRENGTH", x.dog(0, 0, 0), 14);
        x.run(1);
        Checks.due("it may still stay there", x.about(0, 10), 1);
        x.run(1);
        Checks.due("gone again", x.about(0, 9), 1);
        Checks.due("the first AWAY counts", x.time(0, 2, true), 120);
        x = weakAtPost(200, "go");
        x.cold(20, 20, 20);
        Checks.granted(x, "run(500)", x.run(500), 1);
        Checks.due("OUT", x.about(0, 0), 3);
        Checks.due("no LENGTH", x.about(0, 2), 0);
        Checks.due("its AWAY", x.time(0, 2, true), 120);
    }

    private static void out() {
        Checks.sentence("and at the last checkpoint HOME, or OUT when no DOG is left that pulls");
        SledHouse x = Houses.over();
        Checks.about(x, 0, 2, 1, 0, 300, 4, 0, 0, 20, 0, x.time(0, 1, false), 0, 0, 0);
        Checks.sentence("With no DOG that pulls it is OUT.");
        Checks.about(x, 1, 3, 0, x.about(1, 2), x.about(1, 2), 0, 4, 0, 400, 0, 48, 0, 0, 0);
        Checks.due("result", x.result(1), -1);
        Checks.due("lacks", x.lacks(1, 0), -1);
        Checks.due("IN of 1", x.time(1, 1, false), -1);
        Checks.due("did", x.did(1), 0);
        // no LENGTH is gone in the STEP by which it is OUT
        SledHouse y = Checks.house(Checks.legs(300, 200), "go");
        y.team(4, 300, 0, 0, 0);
        y.run(47);
        Checks.due("its way", y.about(0, 3), x.about(1, 3));
        Checks.due("ON", y.about(0, 0), 1);
        y.run(1);
        Checks.due("OUT", y.about(0, 0), 3);
        Checks.due("its way", y.about(0, 3), x.about(1, 3));
    }

    private static void comesIn() {
        Checks.sentence("IN of a checkpoint: the STEP behind that in which it came there (of 0 its START).");
        SledHouse x = Checks.house(Checks.legs(23, 100, 24, 100), "go");
        x.team(4, 20, 0, 7, 0);
        x.run(7);
        Checks.due("IN of 0 while it WAITS", x.time(0, 0, false), -1);
        x.run(1);
        Checks.due("IN of 0", x.time(0, 0, false), 7);
        Checks.due("IN of 1", x.time(0, 1, false), 8);
        Checks.due("IN of 2", x.time(0, 2, false), -1);
        x.run(1);
        Checks.due("IN of 2", x.time(0, 2, false), -1);
        x.run(1);
        Checks.due("IN of 2", x.time(0, 2, false), 10);
    }

    private static void goesAway() {
        Checks.sentence("AWAY: the first STEP in which its ACT there was go");
        SledHouse x = Checks.house(Checks.legs(23, 100, 23, 100), "when post < 1 and rest < 2 stay; go");
        x.team(4, 20, 0, 3, 0);
        x.run(5);
        Checks.due("AWAY of 0", x.time(0, 0, true), -1);
        x.run(1);
        Checks.due("AWAY of 0", x.time(0, 0, true), 5);
        Checks.due("IN of 1", x.time(0, 1, false), 6);
        Checks.due("AWAY of 1", x.time(0, 1, true), -1);
        x.run(1);
        Checks.due("AWAY of 1", x.time(0, 1, true), 6);
        Checks.due("AWAY of the last", x.time(0, 2, true), -1);
    }

    private static void hourOfStep() {
        Checks.sentence("COLD is that of the hour: STEP / 6.");
        SledHouse x = plain("go");
        x.cold(1, 1, 20);
        int[] strength = {990, 980, 970, 960, 950, 940, 920, 900, 880, 860, 840, 820, 810};
        for (int step = 0; step < strength.length; step++) {
            x.run(1);
            Checks.due("STRENGTH behind STEP " + step, x.dog(0, 0, 0), strength[step]);
        }
    }

    private static void startIsThisStep() {
        Checks.sentence("(one whose START is this STEP is from now on)");
        SledHouse x = Checks.house(Checks.legs(2000, 100), "go");
        for (int start = 0; start < 6; start++) {
            x.team(4, 20, 0, start, 0);
        }
        for (int step = 0; step < 6; step++) {
            x.run(1);
            for (int team = 0; team < 6; team++) {
                Checks.due("TEAM " + team + " behind STEP " + step, x.about(team, 0), team <= step ? 1 : 0);
                Checks.due("RUN", x.about(team, 9), Math.max(0, step - team + 1));
            }
        }
    }

    private static void follows() {
        Checks.sentence("A TEAM goes by another PLAN from now on: true; false: 1; 5 (HOME or OUT).");
        SledHouse x = Houses.laid();
        Checks.granted(x, "WAITS", x.follow(2, 2));
        Checks.due("its PLAN", x.about(2, 11), 2);
        x = Houses.racing();
        Checks.granted(x, "ON", x.follow(0, 2));
        Checks.due("its PLAN", x.about(0, 11), 2);
        Checks.granted(x, "the same again", x.follow(0, 2));
        Checks.granted(x, "the first PLAN", x.follow(0, 0));
        Checks.due("its PLAN", x.about(0, 11), 0);
        Checks.due("the others'", x.about(1, 11), 2);
        x = Houses.late();
        Checks.granted(x, "ON behind all STEPS", x.follow(0, 0));
    }

    private static void followRefusals() {
        for (int team : new int[] {-1, 3, 6, Integer.MIN_VALUE, Integer.MAX_VALUE}) {
            Twins.denied(Houses::racing, "TEAM " + team, x -> x.follow(team, 0), 1);
        }
        for (int plan : new int[] {-1, 3, 8, Integer.MIN_VALUE, Integer.MAX_VALUE}) {
            Twins.denied(Houses::racing, "PLAN " + plan, x -> x.follow(0, plan), 1);
            Twins.denied(Houses::over, "1 ahead of 5", x -> x.follow(0, plan), 1);
        }
        Twins.denied(Houses::over, "HOME", x -> x.follow(0, 1), 5);
        Twins.denied(Houses::over, "OUT", x -> x.follow(1, 1), 5);
        Twins.denied(Houses::over, "HOME, its own PLAN", x -> x.follow(0, 0), 5);
        Twins.denied(SledHouse::new, "no TEAM, no PLAN", x -> x.follow(0, 0), 1);
    }

    private static void abouts() {
        Checks.sentence("Of a HOME one the LEG is how many there are. NONE for others.");
        SledHouse x = Houses.over();
        Checks.due("LEG", x.about(0, 1), 1);
        Checks.due("LENGTHS", x.about(0, 2), 0);
        Checks.due("its way", x.about(0, 3), 300);
        for (int what : new int[] {-1, 13, Integer.MIN_VALUE, Integer.MAX_VALUE}) {
            Checks.due("about(0, " + what + ")", x.about(0, what), -1);
        }
        for (int what = 0; what <= 12; what++) {
            Checks.due("about(2, " + what + ")", x.about(2, what), -1);
            for (int team : FAR) {
                Checks.due("about(" + team + ", " + what + ")", x.about(team, what), -1);
            }
            Checks.due("of no TEAM", new SledHouse().about(0, what), -1);
        }
    }

    private static void dogParts() {
        Checks.sentence("2 at which checkpoint it was left (NONE). NONE for others.");
        SledHouse x = Houses.full();
        int[] dogs = {4, 5, 6, 7, 8, 9};
        for (int team = 0; team < 6; team++) {
            for (int what = 0; what <= 2; what++) {
                int[] want = {1000, 0, -1};
                Checks.due("the last DOG of " + team, x.dog(team, dogs[team] - 1, what), want[what]);
                Checks.due("one more", x.dog(team, dogs[team], what), -1);
                Checks.due("the 16th", x.dog(team, 15, what), -1);
            }
            for (int what : new int[] {-1, 3, Integer.MIN_VALUE, Integer.MAX_VALUE}) {
                Checks.due("dog(" + team + ", 0, " + what + ")", x.dog(team, 0, what), -1);
            }
        }
        for (int far : FAR) {
            Checks.due("TEAM " + far, x.dog(far, 0, 0), -1);
            Checks.due("DOG " + far, x.dog(0, far, 0), -1);
        }
        Checks.due("TEAM 6", x.dog(6, 0, 0), -1);
        Checks.due("DOG 16", x.dog(0, 16, 0), -1);
    }

    private static void times() {
        Checks.sentence("NONE if it wasn't there (hasn't gone)");
        SledHouse x = Houses.racing();
        for (int i = 0; i < 2; i++) {
            boolean away = i == 1;
            Checks.due("WAITS", x.time(2, 0, away), -1);
            Checks.due("was not there", x.time(0, 3, away), -1);
            Checks.due("no such checkpoint", x.time(0, 4, away), -1);
            Checks.due("no such TEAM", x.time(3, 0, away), -1);
            Checks.due("none at all", new SledHouse().time(0, 0, away), -1);
            for (int far : FAR) {
                Checks.due("TEAM " + far, x.time(far, 0, away), -1);
                Checks.due("checkpoint " + far, x.time(0, far, away), -1);
            }
        }
    }

    private static void dids() {
        Checks.sentence("Which RULE of its PLAN the TEAM did last (from 0)");
        SledHouse x = house("stay", 4, 20, 0, 1);
        Checks.plan(x, "when run > 9 go; when run > 9 go; stay");
        x.run(1);
        Checks.due("while it WAITS", x.did(0), -1);
        x.run(1);
        Checks.due("the first", x.did(0), 0);
        x.follow(0, 1);
        Checks.due("no STEP since", x.did(0), 0);
        x.run(1);
        Checks.due("the third of another PLAN", x.did(0), 2);
        x = Houses.over();
        Checks.due("of a HOME one the last", x.did(0), 0);
        Checks.due("of one that is OUT, too", x.did(1), 0);
    }
}
