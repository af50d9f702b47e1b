/** The edges of terms I and II and of promises 1, 2, 3, 9, 29: a new object, leg, cold, team, count. */
public final class EdgeTrailTest {
    private static final int[] FAR = {Integer.MIN_VALUE, -1_000_000, 1_000_000, Integer.MAX_VALUE};

    public static void main(String[] args) {
        newObject();
        noLeg();
        lengths();
        hardness();
        legsFull();
        legLate();
        legOrder();
        checkpoints();
        hours();
        degrees();
        firstDegrees();
        fromUpTo();
        hoursDone();
        teamsFull();
        dogs();
        loads();
        meals();
        starts();
        teamRefusals();
        waitsUpToStart();
        strengthAtFirst();
        counts();
        Checks.end("EdgeTrailTest");
    }

    private static void newObject() {
        Checks.sentence("No LEGS, no TEAMS; STEP 0 comes next.");
        SledHouse x = new SledHouse();
        Checks.due("LEGS", x.count(0), 0);
        Checks.due("TEAMS", x.count(1), 0);
        Checks.due("STEPS", x.count(4), 0);
        Checks.due("the whole trail", x.count(5), 0);
        Checks.due("no first TEAM", x.about(0, 0), -1);
        Checks.due("no place", x.place(0), -1);
        x.leg(10, 100);
        Checks.plan(x, "stay");
        x.team(4, 20, 0, 0, 0);
        x.team(4, 20, 0, 1, 0);
        x.run(1);
        Checks.due("STEP 0 was done: whose START it is, is ON", x.about(0, 0), 1);
        Checks.due("STEP 1 wasn't", x.about(1, 0), 0);
    }

    private static void noLeg() {
        Checks.sentence("LEGS 1 .. 12 of 10 .. 2,000 LENGTHS");
        Twins.refused(EdgeTrailTest::onlyPlan, "team() with no LEG", x -> x.team(4, 20, 0, 0, 0), 5);
        SledHouse x = onlyPlan();
        Checks.granted(x, "leg", x.leg(10, 100), 1);
        Checks.granted(x, "team() with one LEG", x.team(4, 20, 0, 0, 0), 0);
        Checks.granted(x, "run(500)", x.run(500), 1);
        Checks.due("HOME at checkpoint 1", x.about(0, 1), 1);
    }

    private static SledHouse onlyPlan() {
        SledHouse x = new SledHouse();
        Checks.plan(x, "go");
        return x;
    }

    private static void lengths() {
        Checks.sentence("of 10 .. 2,000 LENGTHS (of a hundred metres)");
        SledHouse x = new SledHouse();
        Checks.granted(x, "leg(10, 100)", x.leg(10, 100), 1);
        Checks.due("count(5)", x.count(5), 10);
        Checks.granted(x, "leg(2000, 100)", x.leg(2000, 100), 2);
        Checks.due("count(5)", x.count(5), 2010);
        for (int length : new int[] {9, 2001, 0, -10}) {
            Twins.refused(Houses::laid, "leg(" + length + ", 100)", y -> y.leg(length, 100), 2);
        }
        for (int length : FAR) {
            Twins.refused(Houses::laid, "leg(" + length + ", 100)", y -> y.leg(length, 100), 2);
        }
    }

    private static void hardness() {
        Checks.sentence("a HARDNESS 50 .. 200 (100 is plain)");
        SledHouse x = new SledHouse();
        Checks.granted(x, "leg(10, 50)", x.leg(10, 50), 1);
        Checks.granted(x, "leg(10, 200)", x.leg(10, 200), 2);
        for (int hard : new int[] {49, 201, 0, -50}) {
            Twins.refused(Houses::laid, "leg(10, " + hard + ")", y -> y.leg(10, hard), 2);
        }
        for (int hard : FAR) {
            Twins.refused(Houses::laid, "leg(10, " + hard + ")", y -> y.leg(10, hard), 2);
        }
    }

    private static void legsFull() {
        Checks.sentence("A LEG more: how many.");
        SledHouse x = new SledHouse();
        for (int i = 1; i <= 12; i++) {
            Checks.granted(x, "leg " + i, x.leg(2000, 200), i);
            Checks.due("count(0)", x.count(0), i);
            Checks.due("count(5)", x.count(5), 2000 * i);
        }
        Twins.refused(Houses::full, "leg 13", y -> y.leg(10, 50), 3);
    }

    private static void legLate() {
        Checks.sentence("NONE: 5 (STEPS were done); 2; 3.");
        SledHouse x = Houses.laid();
        Checks.granted(x, "ahead of the first STEP", x.leg(10, 50), 4);
        Twins.refused(EdgeTrailTest::oneStep, "behind one STEP", y -> y.leg(10, 50), 5);
        Twins.refused(Houses::racing, "in the race", y -> y.leg(10, 50), 5);
        Twins.refused(Houses::over, "behind it", y -> y.leg(10, 50), 5);
        Twins.refused(Houses::late, "behind all STEPS", y -> y.leg(10, 50), 5);
    }

    private static SledHouse oneStep() {
        SledHouse x = Houses.laid();
        x.run(1);
        return x;
    }

    private static SledHouse fullAndBegun() {
        SledHouse x = Houses.full();
        x.run(1);
        return x;
    }

    /** What is wrong in two ways is refused by what the promise names first. */
    private static void legOrder() {
        Twins.refused(Houses::racing, "5 ahead of 2", y -> y.leg(9, 201), 5);
        Twins.refused(EdgeTrailTest::fullAndBegun, "5 ahead of 3", y -> y.leg(10, 50), 5);
        Twins.refused(Houses::full, "2 ahead of 3", y -> y.leg(9, 50), 2);
        Twins.refused(Houses::full, "2 ahead of 3", y -> y.leg(10, 201), 2);
    }

    private static void checkpoints() {
        Checks.sentence("checkpoint 0 is the start, checkpoint k the end of LEG k - 1");
        SledHouse x = new SledHouse();
        for (int i = 0; i < 12; i++) {
            x.leg(10, 50);
        }
        Checks.plan(x, "go");
        x.team(4, 20, 0, 0, 0);
        Checks.granted(x, "a STEP for each LEG", x.run(500), 12);
        for (int post = 0; post <= 12; post++) {
            Checks.due("IN of " + post, x.time(0, post, false), post);
            Checks.due("AWAY of " + post, x.time(0, post, true), post < 12 ? post : -1);
            Checks.due("came(" + post + ")", x.came(post, 2000), 1);
        }
        for (int post : new int[] {-1, 13, Integer.MIN_VALUE, Integer.MAX_VALUE}) {
            Checks.due("IN of " + post, x.time(0, post, false), -1);
            Checks.due("AWAY of " + post, x.time(0, post, true), -1);
            Checks.due("came(" + post + ")", x.came(post, 2000), -1);
        }
        Checks.due("HOME", x.about(0, 0), 2);
        Checks.due("LEG of a HOME one", x.about(0, 1), 12);
        Checks.due("its way", x.about(0, 3), 120);
    }

    private static void hours() {
        Checks.sentence("COLD of each hour (0 .. 333)");
        SledHouse x = Checks.house(Checks.legs(100, 100), "when cold > 80 go; stay");
        Checks.granted(x, "cold(0, 0, -19)", x.cold(0, 0, -19));
        Checks.granted(x, "cold(333, 333, -19)", x.cold(333, 333, -19));
        x.team(4, 20, 0, 5, 0);
        x.run(6);
        Checks.due("STEP 5 is of hour 0", x.about(0, 9), 1);
        x.run(1);
        Checks.due("STEP 6 isn't", x.about(0, 9), 0);
        x.run(500);
        x.run(500);
        x.run(500);
        x.run(491);
        Checks.due("STEPS", x.count(4), 1998);
        Checks.due("STEP 1997 is of hour 332", x.about(0, 9), 0);
        x.run(500);
        Checks.due("STEPS 1998 and 1999 are of hour 333", x.about(0, 9), 2);
        for (int hour : new int[] {-1, 334, Integer.MIN_VALUE, Integer.MAX_VALUE}) {
            Twins.denied(Houses::laid, "cold(0, " + hour + ", 0)", y -> y.cold(0, hour, 0), 2);
            Twins.denied(Houses::laid, "cold(" + hour + ", 333, 0)", y -> y.cold(hour, 333, 0), 2);
            Twins.denied(Houses::laid, "cold(" + hour + ", same, 0)", y -> y.cold(hour, hour, 0), 2);
        }
        Twins.denied(Houses::laid, "from above to", y -> y.cold(2, 1, 0), 2);
        Twins.denied(Houses::laid, "from above to", y -> y.cold(333, 0, 0), 2);
    }

    private static void degrees() {
        Checks.sentence("-50 .. 20 (at first -20).");
        holdsInFirstStep(-50, "when cold > 49 and cold < 51 stay; go");
        holdsInFirstStep(20, "when cold > 119 and cold < 121 stay; go");
        holdsInFirstStep(0, "when cold > 99 and cold < 101 stay; go");
        for (int degrees : new int[] {-51, 21, Integer.MIN_VALUE, Integer.MAX_VALUE}) {
            Twins.denied(Houses::laid, "cold(0, 3, " + degrees + ")", y -> y.cold(0, 3, degrees), 2);
            Twins.denied(Houses::over, "cold(0, 3, " + degrees + ")", y -> y.cold(0, 3, degrees), 2);
        }
    }

    private static void holdsInFirstStep(int degrees, String plan) {
        SledHouse x = Checks.house(Checks.legs(100, 100), plan);
        Checks.granted(x, "cold(0, 0, " + degrees + ")", x.cold(0, 0, degrees));
        x.team(4, 20, 0, 0, 0);
        x.run(1);
        Checks.due("COLD " + degrees, x.did(0), 0);
    }

    private static void firstDegrees() {
        Checks.sentence("(at first -20)");
        SledHouse x = Checks.house(Checks.legs(100, 100), "when cold > 79 and cold < 81 stay; go");
        x.team(4, 20, 0, 0, 0);
        for (int i = 0; i < 4; i++) {
            x.run(500);
        }
        Checks.due("REST of all 2,000 STEPS", x.about(0, 10), 2000);
    }

    private static void fromUpTo() {
        Checks.sentence("COLD of hours from up to to (it, too): true; false (2).");
        SledHouse x = Checks.house(Checks.legs(2000, 100), "when cold > 80 go; stay");
        Checks.granted(x, "cold(2, 4, -19)", x.cold(2, 4, -19));
        Checks.granted(x, "cold(6, 6, -19)", x.cold(6, 6, -19));
        x.team(4, 20, 0, 0, 0);
        int[] gone = {0, 0, 6, 6, 6, 0, 6, 0};
        for (int hour = 0; hour < gone.length; hour++) {
            int before = x.about(0, 9);
            x.run(6);
            Checks.due("hour " + hour, x.about(0, 9), gone[hour] == 0 ? 0 : before + 6);
        }
    }

    private static void hoursDone() {
        Checks.sentence("(Hours of which a STEP was done stay as they were.)");
        // 6 STEPS: all of hour 0 was done, none of hour 1
        Checks.due("hour 1 ahead of its first STEP", strengthAfterCold(6), 1000 - 6 * 10 - 6 * 20);
        // 7 STEPS: one of hour 1 was done
        Checks.due("hour 1 behind its first STEP", strengthAfterCold(7), 1000 - 12 * 10);
        Checks.due("hour 1 behind its last STEP but one", strengthAfterCold(11), 1000 - 12 * 10);
        Checks.due("hour 0 behind its first STEP", strengthAfterCold(1), 1000 - 6 * 10 - 6 * 20);
        Checks.due("hour 0 ahead of it", strengthAfterCold(0), 1000 - 12 * 20);
        SledHouse x = Houses.late();
        Checks.granted(x, "behind all STEPS", x.cold(0, 333, 20));
        Twins.same("cold() of done hours alone", Houses::racing,
            () -> Twins.after(Houses::racing, y -> y.cold(0, 1, 20)));
    }

    /** All hours become 20 when so many STEPS were done; 12 STEPS of go in all. The days of a replay stay, too. */
    private static int strengthAfterCold(int steps) {
        SledHouse x = Checks.house(Checks.legs(2000, 100), "go");
        x.team(4, 20, 0, 0, 0);
        if (steps > 0) {
            x.run(steps);
        }
        Checks.granted(x, "cold(0, 333, 20)", x.cold(0, 333, 20));
        x.run(12 - steps);
        Checks.due("replay", x.replay(0, 0, 0), x.about(0, 3));
        return x.dog(0, 0, 0);
    }

    private static void teamsFull() {
        Checks.sentence("TEAMS 6, of 4 to 16 DOGS");
        SledHouse x = Checks.house(Checks.legs(100, 100), "go");
        for (int i = 0; i < 6; i++) {
            Checks.granted(x, "team " + i, x.team(4, 20, 0, 0, 0), i);
            Checks.due("count(1)", x.count(1), i + 1);
        }
        Checks.due("the sixth", x.about(5, 0), 0);
        Checks.due("no seventh", x.about(6, 0), -1);
        Twins.refused(Houses::full, "the seventh", y -> y.team(4, 20, 0, 0, 0), 3);
    }

    private static SledHouse withTeam(int dogs, int load, int meals, int start) {
        SledHouse x = Checks.house(Checks.legs(2000, 100), "go");
        Checks.granted(x, "team", x.team(dogs, load, meals, start, 0), 0);
        return x;
    }

    private static void dogs() {
        Checks.sentence("of 4 to 16 DOGS");
        SledHouse x = withTeam(4, 20, 0, 0);
        Checks.due("DOG 3 of 4", x.dog(0, 3, 0), 1000);
        Checks.due("DOG 4 of 4", x.dog(0, 4, 0), -1);
        Checks.due("that pull", x.about(0, 4), 4);
        x = withTeam(16, 20, 0, 0);
        Checks.due("DOG 15 of 16", x.dog(0, 15, 0), 1000);
        Checks.due("DOG 16 of 16", x.dog(0, 16, 0), -1);
        Checks.due("that pull", x.about(0, 4), 16);
        for (int dogs : new int[] {3, 17, 0, -4, Integer.MIN_VALUE, Integer.MAX_VALUE}) {
            Twins.refused(Houses::laid, dogs + " DOGS", y -> y.team(dogs, 20, 0, 0, 0), 2);
        }
    }

    private static void loads() {
        Checks.sentence("a LOAD 20 .. 300");
        Checks.due("LOAD", withTeam(4, 20, 0, 0).about(0, 7), 20);
        Checks.due("LOAD", withTeam(4, 300, 0, 0).about(0, 7), 300);
        for (int load : new int[] {19, 301, 0, Integer.MIN_VALUE, Integer.MAX_VALUE}) {
            Twins.refused(Houses::laid, "LOAD " + load, y -> y.team(4, load, 0, 0, 0), 2);
        }
    }

    private static void meals() {
        Checks.sentence("MEALS 0 .. 60");
        Checks.due("MEALS", withTeam(4, 20, 0, 0).about(0, 8), 0);
        Checks.due("MEALS", withTeam(4, 20, 60, 0).about(0, 8), 60);
        for (int meals : new int[] {-1, 61, Integer.MIN_VALUE, Integer.MAX_VALUE}) {
            Twins.refused(Houses::laid, "MEALS " + meals, y -> y.team(4, 20, meals, 0, 0), 2);
        }
    }

    private static void starts() {
        Checks.sentence("a START (a STEP 0 .. 100) and a PLAN");
        Checks.due("START", withTeam(4, 20, 0, 0).about(0, 12), 0);
        Checks.due("START", withTeam(4, 20, 0, 100).about(0, 12), 100);
        for (int start : new int[] {-1, 101, Integer.MIN_VALUE, Integer.MAX_VALUE}) {
            Twins.refused(Houses::laid, "START " + start, y -> y.team(4, 20, 0, start, 0), 2);
        }
    }

    private static void teamRefusals() {
        Checks.sentence("NONE: 5 (STEPS were done, or there is no LEG); 1 (PLAN); 2; 3.");
        Twins.refused(EdgeTrailTest::oneStep, "behind one STEP", y -> y.team(4, 20, 0, 0, 0), 5);
        Twins.refused(Houses::over, "behind the race", y -> y.team(4, 20, 0, 0, 0), 5);
        for (int plan : new int[] {-1, 3, 8, Integer.MIN_VALUE, Integer.MAX_VALUE}) {
            Twins.refused(Houses::laid, "PLAN " + plan, y -> y.team(4, 20, 0, 0, plan), 1);
        }
        SledHouse x = Houses.laid();
        Checks.granted(x, "the last PLAN", x.team(4, 20, 0, 0, 2), 3);
        Checks.due("its PLAN", x.about(3, 11), 2);
        Twins.refused(Houses::racing, "5 ahead of 1", y -> y.team(4, 20, 0, 0, 3), 5);
        Twins.refused(Houses::racing, "5 ahead of 2", y -> y.team(3, 20, 0, 0, 0), 5);
        Twins.refused(EdgeTrailTest::fullAndBegun, "5 ahead of 3", y -> y.team(4, 20, 0, 0, 0), 5);
        Twins.refused(SledHouse::new, "5 ahead of 1, no LEG", y -> y.team(4, 20, 0, 0, 0), 5);
        Twins.refused(Houses::laid, "1 ahead of 2", y -> y.team(3, 19, -1, -1, 3), 1);
        Twins.refused(Houses::full, "1 ahead of 3", y -> y.team(4, 20, 0, 0, 8), 1);
        Twins.refused(Houses::full, "2 ahead of 3", y -> y.team(17, 20, 0, 0, 0), 2);
        Twins.refused(Houses::full, "2 ahead of 3", y -> y.team(4, 301, 0, 0, 0), 2);
        Twins.refused(Houses::full, "2 ahead of 3", y -> y.team(4, 20, 61, 0, 0), 2);
        Twins.refused(Houses::full, "2 ahead of 3", y -> y.team(4, 20, 0, 101, 0), 2);
    }

    private static void waitsUpToStart() {
        Checks.sentence("It WAITS up to its START, then is ON");
        SledHouse x = withTeam(4, 20, 0, 100);
        x.run(100);
        Checks.due("behind STEP 99", x.about(0, 0), 0);
        Checks.due("its way", x.about(0, 3), 0);
        Checks.due("IN of 0", x.time(0, 0, false), -1);
        x.run(1);
        Checks.due("behind STEP 100", x.about(0, 0), 1);
        Checks.due("its way", x.about(0, 3), 23);
        Checks.due("IN of 0", x.time(0, 0, false), 100);
        x = withTeam(4, 20, 0, 0);
        Checks.due("ahead of STEP 0", x.about(0, 0), 0);
        x.run(1);
        Checks.due("behind STEP 0", x.about(0, 0), 1);
    }

    private static void strengthAtFirst() {
        Checks.sentence("with STRENGTH 0 .. 1,000 (1,000 at first)");
        SledHouse x = withTeam(16, 20, 0, 3);
        for (int dog = 0; dog < 16; dog++) {
            Checks.due("STRENGTH of " + dog, x.dog(0, dog, 0), 1000);
            Checks.due("it pulls", x.dog(0, dog, 1), 0);
            Checks.due("left at", x.dog(0, dog, 2), -1);
        }
        x.run(3);
        Checks.due("STRENGTH while it WAITS", x.dog(0, 15, 0), 1000);
    }

    private static void counts() {
        Checks.sentence("NONE for others.");
        SledHouse x = Houses.withFullTape(Houses.full());
        int[] most = {12, 6, 8, 10, 0, 12 * 20 + 66, 400};
        for (int what = 0; what <= 6; what++) {
            Checks.due("count(" + what + ")", x.count(what), most[what]);
        }
        for (int what : new int[] {-1, 7, Integer.MIN_VALUE, Integer.MAX_VALUE}) {
            Checks.due("count(" + what + ")", x.count(what), -1);
        }
        Checks.due("count(4)", Houses.late().count(4), 2000);
    }
}
