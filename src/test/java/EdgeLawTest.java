/** The edges of term V (what LACKS) and of promises 18 to 21: result, lacks, place, came. */
public final class EdgeLawTest {
    private static final int[] FAR = {-1, Integer.MIN_VALUE, Integer.MAX_VALUE};

    public static void main(String[] args) {
        restAt();
        restAtLast();
        restAtNone();
        restFromTo();
        leastOfFromTo();
        dogsThatPull();
        fines();
        greatestResult();
        results();
        lacking();
        lawsBehindHome();
        homeByResult();
        onByWay();
        waitAndOut();
        noPlace();
        arrivals();
        Checks.end("EdgeLawTest");
    }

    /** Rests 3 STEPS at checkpoint 0, none at 1, 5 at 2; 3 is the last. From START 2 to IN 13: 11 STEPS. */
    private static SledHouse rested(String laws) {
        SledHouse x = Checks.house(Checks.legs(20, 100, 20, 100, 20, 100),
            "when post < 1 and rest < 3 stay; when post > 1 and post < 3 and rest < 5 stay; go");
        Checks.laws(x, laws);
        x.team(4, 20, 0, 2, 0);
        x.run(500);
        Checks.due("IN of the last", x.time(0, 3, false), 13);
        return x;
    }

    private static void lacks(String law, int want) {
        SledHouse x = rested(law);
        Checks.due(law, x.count(3), 1);
        Checks.due(law + ": lacks", x.lacks(0, 0), want);
        Checks.due(law + ": result", x.result(0), 11 + 2 * want);
    }

    private static void restAt() {
        Checks.sentence("at that checkpoint AWAY less IN (the last one's counts as much) is so many STEPS at least");
        lacks("rest 0 at 0", 0);
        lacks("rest 2 at 0", 0);
        lacks("rest 3 at 0", 0);
        lacks("rest 4 at 0", 1);
        lacks("rest 9999 at 0", 9996);
        lacks("rest 0 at 1", 0);
        lacks("rest 1 at 1", 1);
        lacks("rest 5 at 2", 0);
        lacks("rest 6 at 2", 1);
    }

    private static void restAtLast() {
        Checks.sentence("(the last one's counts as much)");
        lacks("rest 1 at 3", 0);
        lacks("rest 9999 at 3", 0);
        lacks("rest 9999 from 0 to 3", 0);
        lacks("rest 9999 from 3 to 3", 0);
    }

    private static void restAtNone() {
        Checks.sentence("A rest law of a checkpoint that there isn't, or from above to: it is of no matter.");
        lacks("rest 9 at 4", 0);
        lacks("rest 9 at 13", 0);
        lacks("rest 9 at 9999", 0);
        lacks("rest 9 from 4 to 4", 0);
        lacks("rest 9 from 0 to 4", 0);
        lacks("rest 9 from 1 to 9999", 0);
        lacks("rest 9 from 9998 to 9999", 0);
        lacks("rest 9 from 1 to 0", 0);
        lacks("rest 9 from 2 to 1", 0);
        lacks("rest 9 from 9999 to 0", 0);
    }

    private static void restFromTo() {
        Checks.sentence("rest NUMBER from NUMBER to NUMBER: at one of these checkpoints at least.");
        lacks("rest 0 from 0 to 2", 0);
        lacks("rest 3 from 0 to 0", 0);
        lacks("rest 3 from 0 to 1", 0);
        lacks("rest 5 from 1 to 2", 0);
        lacks("rest 5 from 0 to 2", 0);
    }

    private static void leastOfFromTo() {
        Checks.sentence("of from to: the least of what is less at one of them");
        lacks("rest 4 from 0 to 0", 1);
        lacks("rest 4 from 0 to 1", 1);
        lacks("rest 4 from 1 to 1", 4);
        lacks("rest 6 from 1 to 2", 1);
        lacks("rest 6 from 0 to 2", 1);
        lacks("rest 9999 from 0 to 2", 9994);
    }

    /** DOGS of 6 that are left at the start; the others come to the last checkpoint. */
    private static SledHouse dogs(int left, String laws) {
        SledHouse x = Checks.house(Checks.legs(20, 100), "when dogs > " + (6 - left) + " leave; go");
        Checks.laws(x, laws);
        x.team(6, 20, 0, 0, 0);
        x.run(500);
        Checks.due("that pull", x.about(0, 4), 6 - left);
        return x;
    }

    private static void dogsThatPull() {
        Checks.sentence("dogs NUMBER: so many DOGS pull at the last checkpoint.");
        for (int left = 0; left < 6; left++) {
            SledHouse x = dogs(left, "dogs 0;dogs 4;dogs 6;dogs 7;dogs 9999");
            int pull = 6 - left;
            Checks.due("dogs 0", x.lacks(0, 0), 0);
            Checks.due("dogs 4", x.lacks(0, 1), Math.max(0, 4 - pull));
            Checks.due("dogs 6", x.lacks(0, 2), left);
            Checks.due("dogs 7", x.lacks(0, 3), left + 1);
            Checks.due("dogs 9999", x.lacks(0, 4), 9999 - pull);
        }
    }

    private static void fines() {
        Checks.sentence("(the latest fine law; 2 and 60 without one)");
        // 9 STEPS and 2 DOGS lack; 11 STEPS from START to IN
        String lacking = "rest 4 at 0;rest 8 at 1;dogs 5;dogs 5";
        Checks.due("without one", rested(lacking).result(0), 11 + 2 * 9 + 60 * 2);
        Checks.due("behind", rested(lacking + ";fine 3 for 7").result(0), 11 + 3 * 9 + 7 * 2);
        Checks.due("ahead", rested("fine 3 for 7;" + lacking).result(0), 11 + 3 * 9 + 7 * 2);
        Checks.due("the latest", rested("fine 3 for 7;" + lacking + ";fine 0 for 1").result(0), 11 + 2);
        Checks.due("the latest", rested("fine 0 for 1;fine 1 for 0;" + lacking).result(0), 11 + 9);
        Checks.due("none", rested(lacking + ";fine 0 for 0").result(0), 11);
        SledHouse x = rested(lacking + ";fine 3 for 7");
        Checks.sentence("What LACKS of a HOME TEAM by LAW i (0 of a fine)");
        Checks.due("of a fine", x.lacks(0, 4), 0);
        Checks.laws(x, "fine 5 for 100");
        Checks.due("one that came behind the race", x.result(0), 11 + 5 * 9 + 100 * 2);
    }

    private static void greatestResult() {
        Checks.sentence("PENALTY: the first fine times all STEPS that lack and the second times all DOGS.");
        SledHouse x = rested("rest 9999 at 1;".repeat(9) + "fine 9999 for 9999");
        Checks.due("nine rest laws", x.result(0), 11 + 9 * 9999 * 9999);
        x = rested("dogs 9999;".repeat(9) + "fine 9999 for 9999");
        Checks.due("nine dogs laws", x.result(0), 11 + 9 * 9995 * 9999);
        x = rested("rest 9999 at 1;".repeat(5) + "dogs 9999;".repeat(4) + "fine 9999 for 9998");
        Checks.due("both", x.result(0), 11 + 5 * 9999 * 9999 + 4 * 9995 * 9998);
    }

    private static void results() {
        Checks.sentence("RESULT of a HOME TEAM; NONE for others.");
        SledHouse x = Houses.racing();
        Checks.due("ON", x.result(0), -1);
        Checks.due("WAITS", x.result(2), -1);
        Checks.due("none such", x.result(3), -1);
        x = Houses.over();
        Checks.due("HOME", x.result(0), x.time(0, 1, false) + 6);
        Checks.due("OUT", x.result(1), -1);
        for (int team : FAR) {
            Checks.due("result(" + team + ")", x.result(team), -1);
        }
        Checks.due("none at all", new SledHouse().result(0), -1);
        Checks.sentence("RESULT: IN of the last checkpoint less START and the PENALTY more.");
        // HOME in the first STEP of its START: the least RESULT
        x = Checks.house(Checks.legs(10, 100), "go");
        x.team(4, 20, 0, 100, 0);
        x.run(500);
        Checks.due("one STEP", x.result(0), 1);
    }

    private static void lacking() {
        Checks.sentence("NONE: no such LAW, or it isn't HOME.");
        SledHouse x = Houses.over();
        Checks.due("HOME", x.lacks(0, 0), 3);
        Checks.due("no such LAW", x.lacks(0, 1), -1);
        Checks.due("OUT", x.lacks(1, 0), -1);
        Checks.due("none such", x.lacks(2, 0), -1);
        for (int far : FAR) {
            Checks.due("LAW " + far, x.lacks(0, far), -1);
            Checks.due("TEAM " + far, x.lacks(far, 0), -1);
        }
        x = Houses.racing();
        Checks.due("ON", x.lacks(0, 0), -1);
        Checks.due("WAITS", x.lacks(2, 0), -1);
        Checks.due("none at all", new SledHouse().lacks(0, 0), -1);
        x = rested("dogs 5;dogs 5;dogs 5;dogs 5;dogs 5;dogs 5;dogs 5;dogs 5;dogs 5;dogs 6");
        Checks.due("the tenth", x.lacks(0, 9), 2);
        Checks.due("no eleventh", x.lacks(0, 10), -1);
        x = Checks.house(Checks.legs(20, 100), "go");
        x.team(4, 20, 0, 0, 0);
        x.run(500);
        Checks.due("HOME, but no LAW", x.lacks(0, 0), -1);
    }

    private static void lawsBehindHome() {
        Checks.sentence("are LAWS behind the others: how many there are");
        SledHouse x = rested("rest 4 at 0");
        Checks.due("result", x.result(0), 13);
        Checks.granted(x, "laws", Checks.laws(x, "rest 6 at 2"), 2);
        Checks.due("the first", x.lacks(0, 0), 1);
        Checks.due("the second", x.lacks(0, 1), 1);
        Checks.due("result", x.result(0), 15);
    }

    private static void order(SledHouse x, int... teams) {
        for (int i = 0; i < teams.length; i++) {
            Checks.due("place(" + i + ")", x.place(i), teams[i]);
        }
        Checks.due("place(" + teams.length + ")", x.place(teams.length), -1);
    }

    private static void homeByResult() {
        Checks.sentence("HOME ones by RESULT, then numbers");
        SledHouse x = Checks.house(Checks.legs(20, 100, 20, 100),
            "go", "when post < 1 and rest < 1 stay; go", "when post < 1 and rest < 2 stay; go");
        int[] plans = {2, 0, 1, 0, 1, 2};
        for (int i = 0; i < 6; i++) {
            x.team(4, 20, 0, 50 - 10 * i, plans[i]);
        }
        x.run(500);
        order(x, 1, 3, 2, 4, 0, 5);
        // each STEP that lacks of the rest costs two: those that rested are as good as, or better than the others
        Checks.laws(x, "rest 1 at 0;fine 1 for 0");
        order(x, 1, 2, 3, 4, 0, 5);
        Checks.laws(x, "fine 2 for 0");
        order(x, 2, 4, 0, 1, 3, 5);
        Checks.laws(x, "fine 3 for 0");
        order(x, 2, 4, 0, 5, 1, 3);
    }

    private static void onByWay() {
        Checks.sentence("then ON ones by way (more first), then numbers");
        SledHouse x = Checks.house(Checks.legs(23, 100, 2000, 100), "go", "stay");
        x.team(4, 20, 0, 0, 1);
        x.team(4, 20, 0, 1, 0);
        x.team(4, 20, 0, 0, 0);
        x.team(4, 20, 0, 1, 0);
        x.team(4, 20, 0, 0, 1);
        x.run(1);
        order(x, 2, 0, 4, 1, 3);
        x.run(1);
        order(x, 2, 1, 3, 0, 4);
        // HOME goes ahead of the greatest way that is ON
        x = Checks.house(Checks.legs(100, 100), "go");
        Checks.laws(x, "rest 9999 at 0;fine 9999 for 0");
        x.team(4, 20, 0, 1, 0);
        x.team(4, 20, 0, 0, 0);
        x.run(5);
        Checks.due("ON", x.about(0, 0), 1);
        Checks.due("HOME", x.about(1, 0), 2);
        order(x, 1, 0);
    }

    private static void waitAndOut() {
        Checks.sentence("then those that WAIT and those that are OUT, each by numbers; NONE.");
        SledHouse x = Checks.house(Checks.legs(300, 200), "go", "stay");
        x.team(4, 300, 0, 0, 0);
        x.team(4, 20, 0, 90, 0);
        x.team(4, 300, 0, 1, 0);
        x.team(4, 20, 0, 80, 0);
        x.team(4, 20, 0, 0, 0);
        x.team(4, 20, 0, 0, 1);
        order(x, 0, 1, 2, 3, 4, 5);
        x.run(60);
        int[] status = {3, 0, 3, 0, 2, 1};
        for (int team = 0; team < 6; team++) {
            Checks.due("TEAM " + team, x.about(team, 0), status[team]);
        }
        order(x, 4, 5, 1, 3, 0, 2);
        // those that are OUT have more way than the one that is ON with none
        Checks.due("way", x.about(0, 3) > 0, true);
    }

    private static void noPlace() {
        Checks.sentence("The TEAM in a place (0 the first)");
        Checks.due("no TEAM", new SledHouse().place(0), -1);
        SledHouse x = Houses.full();
        for (int i = 0; i < 6; i++) {
            Checks.due("place(" + i + ")", x.place(i), i);
        }
        Checks.due("place(6)", x.place(6), -1);
        for (int far : FAR) {
            Checks.due("place(" + far + ")", x.place(far), -1);
        }
    }

    private static void arrivals() {
        SledHouse x = Checks.house(Checks.legs(23, 100, 23, 100), "go");
        x.team(4, 20, 0, 3, 0);
        x.team(4, 20, 0, 3, 0);
        x.team(4, 20, 0, 9, 0);
        Checks.sentence("How many TEAMS (that don't WAIT)");
        Checks.due("all WAIT", x.came(0, 2000), 0);
        x.run(9);
        int[][] want = {{0, 2, 0}, {0, 3, 2}, {0, 8, 2}, {0, 9, 2}, {0, 2000, 2}, {1, 3, 0}, {1, 4, 2}, {2, 4, 0}, {2, 5, 2}};
        for (int[] one : want) {
            Checks.due("one WAITS: came(" + one[0] + ", " + one[1] + ")", x.came(one[0], one[1]), one[2]);
        }
        Checks.sentence("came to a checkpoint up to a STEP (IN at most it); NONE for no such checkpoint.");
        x.run(1);
        Checks.due("came(0, 8)", x.came(0, 8), 2);
        Checks.due("came(0, 9)", x.came(0, 9), 3);
        Checks.due("came(1, 9)", x.came(1, 9), 2);
        Checks.due("came(1, 10)", x.came(1, 10), 3);
        for (int post = 0; post <= 2; post++) {
            Checks.due("came(" + post + ", -1)", x.came(post, -1), 0);
            Checks.due("came(" + post + ", MIN)", x.came(post, Integer.MIN_VALUE), 0);
            Checks.due("came(" + post + ", MAX)", x.came(post, Integer.MAX_VALUE), post == 2 ? 2 : 3);
        }
        for (int step : new int[] {0, 5, 2000}) {
            Checks.due("came(3, " + step + ")", x.came(3, step), -1);
            for (int far : FAR) {
                Checks.due("came(" + far + ", " + step + ")", x.came(far, step), -1);
            }
        }
        // one that is OUT came, too, to where it was
        Checks.due("OUT", Houses.over().came(0, 0), 2);
        Checks.due("OUT", Houses.over().came(1, 2000), 1);
    }
}
