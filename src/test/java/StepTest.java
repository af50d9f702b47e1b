/** Promises 13 to 17 by hand: what STEPS do to a TEAM (term IV), and the NAMES of TESTS (term III). */
public final class StepTest {
    public static void main(String[] args) {
        loss();
        lengths();
        stayGains();
        feeding();
        leaving();
        carried();
        outAtCheckpoint();
        goOfNoLength();
        homeAtLast();
        checkpoints();
        rules();
        names();
        Checks.end("StepTest");
    }

    /** The STRENGTH behind one STEP of go. */
    private static int behindGo(int load, int hardness, int degrees) {
        SledHouse x = Checks.house(Checks.legs(2000, hardness), "go");
        x.cold(0, 0, degrees);
        x.team(4, load, 0, 0, 0);
        x.run(1);
        return x.dog(0, 3, 0);
    }

    private static void loss() {
        Checks.due("plain", behindGo(20, 100, -20), 990);
        Checks.due("load 39", behindGo(39, 100, -20), 990);
        Checks.due("load 40", behindGo(40, 100, -20), 989);
        Checks.due("load 300", behindGo(300, 100, -20), 983);
        Checks.due("hardness 50", behindGo(20, 50, -20), 992);
        Checks.due("hardness 124", behindGo(20, 124, -20), 990);
        Checks.due("hardness 200", behindGo(20, 200, -20), 986);
        Checks.due("cold -50", behindGo(20, 100, -50), 990);
        Checks.due("cold -8", behindGo(20, 100, -8), 990);
        Checks.due("cold -7", behindGo(20, 100, -7), 989);
        Checks.due("cold -1", behindGo(20, 100, -1), 987);
        Checks.due("cold 20", behindGo(20, 100, 20), 980);
    }

    /** The way behind one STEP of go. */
    private static int wayOf(int dogs, int load, int hardness) {
        SledHouse x = Checks.house(Checks.legs(2000, hardness), "go");
        x.team(dogs, load, 0, 0, 0);
        x.run(1);
        return x.about(0, 3);
    }

    private static void lengths() {
        // 30 * 990 * 4 * 100 / 100000 = 118; * 20 = 2360; / 100 = 23
        Checks.due("4 dogs", wayOf(4, 20, 100), 23);
        // mean 983: 30 * 983 * 16 * 100 / 100000 = 471; * 20 = 9420; / 620 = 15
        Checks.due("16 dogs, load 300", wayOf(16, 300, 100), 15);
        // mean 992: 30 * 992 * 16 * 100 / 50000 = 952; * 20 = 19040; / 340 = 56
        Checks.due("16 dogs, hardness 50", wayOf(16, 20, 50), 56);
        // mean 979: 30 * 979 * 4 * 100 / 200000 = 58; * 20 = 1160; / 380 = 3
        Checks.due("4 dogs, hardness 200", wayOf(4, 300, 200), 3);
        // mean 987: 30 * 987 * 7 * 100 / 137000 = 151; * 20 = 3020; / 216 = 13
        Checks.due("7 dogs", wayOf(7, 76, 137), 13);
    }

    private static void stayGains() {
        int[][] want = {{-50, 10}, {-31, 10}, {-30, 15}, {-20, 15}, {-5, 15}, {-4, 12}, {20, 12}};
        for (int[] one : want) {
            SledHouse x = Checks.house(Checks.legs(2000, 100), "when hour < 1 go; stay");
            x.cold(1, 1, one[0]);
            x.team(4, 20, 0, 0, 0);
            x.run(6);
            Checks.due("before", x.dog(0, 0, 0), 940);
            x.run(1);
            Checks.due("stay at " + one[0], x.dog(0, 0, 0), 940 + one[1]);
            x.run(5);
            Checks.due("never above", x.dog(0, 0, 0), Math.min(1000, 940 + 6 * one[1]));
        }
    }

    private static void feeding() {
        SledHouse x = Checks.house(Checks.legs(2000, 100), "when hour < 4 go; feed");
        x.team(4, 20, 2, 0, 0);
        x.run(24);
        Checks.due("before", x.dog(0, 0, 0), 760);
        x.run(1);
        Checks.due("fed", x.dog(0, 0, 0), 895);
        Checks.due("meals", x.about(0, 8), 1);
        Checks.due("rest", x.about(0, 10), 1);
        Checks.due("run", x.about(0, 9), 0);
        x.run(1);
        Checks.due("fed again", x.dog(0, 0, 0), 1000);
        Checks.due("meals", x.about(0, 8), 0);
        x = Checks.house(Checks.legs(2000, 100), "when hour < 4 go; feed");
        x.team(4, 20, 0, 0, 0);
        x.run(25);
        Checks.due("as stay", x.dog(0, 0, 0), 775);
        Checks.due("meals", x.about(0, 8), 0);
        Checks.due("did", x.did(0), 1);
    }

    private static void leaving() {
        SledHouse x = Checks.house(Checks.legs(100, 100, 2000, 100),
            "when left < 101 go; when post < 2 and rest < 5 leave; when post < 99 go; leave");
        x.team(4, 20, 0, 0, 0);
        x.run(5);
        Checks.about(x, 0, 1, 1, 0, 100, 4, 0, 0, 20, 0, 5, 0);
        x.run(1);
        Checks.due("950 and no gain for the left", x.dog(0, 0, 0), 950);
        Checks.due("gain behind leave", x.dog(0, 1, 0), 965);
        Checks.due("left", x.dog(0, 0, 1), 2);
        Checks.due("left where", x.dog(0, 0, 2), 1);
        Checks.about(x, 0, 1, 1, 0, 100, 3, 0, 1, 20, 0, 0, 1);
        x.run(2);
        Checks.due("one that pulls", x.about(0, 4), 1);
        x.run(2);
        Checks.due("the last stays", x.about(0, 4), 1);
        Checks.due("it is dog 3", x.dog(0, 3, 1), 0);
        Checks.due("five times rest", x.dog(0, 3, 0), 1000);
        x.run(1);
        // mean 990, 1 dog: 29 * 20 / 40 = 14
        Checks.due("alone", x.about(0, 2), 14);
        x.run(1);
        Checks.due("no leave between checkpoints", x.about(0, 6), 3);
        Checks.due("but as stay", x.dog(0, 3, 0), 1000);
        Checks.due("did", x.did(0), 3);
    }

    /** Load 300 and hardness 200 cost 21: DOGS are as strong as one another, so all fall behind 48 STEPS at once. */
    private static void carried() {
        SledHouse x = Checks.house(Checks.legs(2000, 200), "go");
        x.team(16, 300, 0, 0, 0);
        x.run(47);
        Checks.due("strength", x.dog(0, 15, 0), 1000 - 47 * 21);
        Checks.due("pull", x.about(0, 4), 16);
        Checks.due("run(500)", x.run(500), 1);
        Checks.about(x, 0, 3, 0, x.about(0, 2), x.about(0, 3), 0, 16, 0, 300 + 16 * 25, 0, 48, 0, 0, 0, -1);
        Checks.due("strength", x.dog(0, 15, 0), 0);
        Checks.due("carried", x.dog(0, 15, 1), 1);
        Checks.due("left nowhere", x.dog(0, 15, 2), -1);
        Checks.due("result", x.result(0), -1);
        Checks.refused(x, "follow", x.follow(0, 0), 5);
    }

    /** Long LEGS that are easy, 120 STEPS with one warmer hour: 22 of STRENGTH are left behind them. */
    private static SledHouse tired(int... legs) {
        SledHouse x = Checks.house(legs, "go");
        x.cold(0, 0, -1);
        x.cold(20, 20, 20);
        x.team(16, 20, 0, 0, 0);
        x.run(120);
        Checks.due("22 are left", x.dog(0, 0, 0), 22);
        return x;
    }

    /** OUT by a go at the checkpoint: AWAY is told although no LENGTH was gone. */
    private static void outAtCheckpoint() {
        int second = tired(2000, 50, 2000, 50).about(0, 2);
        SledHouse x = tired(2000, 50, second, 50, 100, 200);
        Checks.about(x, 0, 1, 2, 0, 2000 + second, 16, 0, 0, 20, 0, 120, 0);
        Checks.due("in of 2", x.time(0, 2, false), 120);
        Checks.due("away of 2", x.time(0, 2, true), -1);
        Checks.due("run(9)", x.run(9), 1);
        Checks.about(x, 0, 3, 2, 0, 2000 + second, 0, 16, 0, 420, 0, 121, 0);
        Checks.due("away of 2", x.time(0, 2, true), 120);
        Checks.due("in of 3", x.time(0, 3, false), -1);
        Checks.due("lacks", x.lacks(0, 0), -1);
    }

    /** A go of no LENGTH is away, too, and the checkpoint is still there to stay at. */
    private static void goOfNoLength() {
        int second = tired(2000, 50, 2000, 50).about(0, 2);
        SledHouse x = Checks.house(Checks.legs(2000, 50, second, 50, 100, 50),
            "when hour < 20 go; when run > 120 stay; when rest > 0 and post > 2 go; when rest < 9 and rest > 0 stay; go");
        x.cold(0, 0, -1);
        x.team(16, 20, 0, 0, 0);
        x.run(120);
        Checks.due("at 2", x.about(0, 1), 2);
        x.run(1);
        Checks.due("gone no length", x.about(0, 2), 0);
        Checks.due("away of 2", x.time(0, 2, true), 120);
        Checks.due("14 are left", x.dog(0, 0, 0), 14);
        x.run(1);
        Checks.due("rests there", x.about(0, 10), 1);
        x.run(8);
        Checks.due("rests on", x.about(0, 10), 9);
        x.run(1);
        Checks.due("away of 2 as before", x.time(0, 2, true), 120);
        Checks.due("in of 2 as before", x.time(0, 2, false), 120);
        // 14 + 9 * 15 - 8 = 141: 135 * 20 / 340 = 7
        Checks.due("gone", x.about(0, 2), 7);
    }

    private static void homeAtLast() {
        SledHouse x = Checks.house(Checks.legs(10, 50, 10, 200), "go");
        x.team(4, 20, 0, 0, 0);
        x.run(1);
        Checks.due("at 1", x.about(0, 1), 1);
        Checks.due("away of 1", x.time(0, 1, true), -1);
        Checks.due("in of 1", x.time(0, 1, false), 1);
        x.run(1);
        Checks.due("home", x.about(0, 0), 2);
        Checks.due("away of 1", x.time(0, 1, true), 1);
        Checks.due("away of 2", x.time(0, 2, true), -1);
        Checks.due("in of 3", x.time(0, 3, false), -1);
        Checks.due("in of -1", x.time(0, -1, false), -1);
    }

    private static void checkpoints() {
        SledHouse x = Checks.house(Checks.legs(46, 100, 20, 100), "when post < 2 and rest < 3 and run < 1 stay;"
            + "when post < 1 go; when post < 2 and rest < 2 stay; go");
        x.team(4, 20, 0, 7, 0);
        x.run(7);
        Checks.due("in of 0 while it waits", x.time(0, 0, false), -1);
        Checks.due("did while it waits", x.did(0), -1);
        x.run(1);
        Checks.due("in of 0", x.time(0, 0, false), 7);
        Checks.due("away of 0", x.time(0, 0, true), -1);
        Checks.due("did", x.did(0), 0);
        x.run(3);
        Checks.due("away of 0", x.time(0, 0, true), 10);
        Checks.due("did", x.did(0), 1);
        Checks.due("way", x.about(0, 3), 23);
        x.run(1);
        // 2 * 23 = 46 is the LEG's end (980 * 12 / 1000 = 117; * 20 / 100 = 23)
        Checks.due("at 1", x.about(0, 1), 1);
        Checks.due("lengths", x.about(0, 2), 0);
        Checks.due("in of 1", x.time(0, 1, false), 12);
        Checks.due("did", x.did(0), 3);
        x.run(1);
        Checks.due("did", x.did(0), 2);
        x.run(500);
        Checks.due("away of 1", x.time(0, 1, true), 15);
        Checks.due("in of 2", x.time(0, 2, false), 16);
        Checks.about(x, 0, 2, 2, 0, 66, 4, 0, 0, 20, 0, 1, 0, 0, 7);
    }

    private static void rules() {
        SledHouse x = Checks.house(Checks.legs(2000, 100), "when run > 5 stay", "when run > 1 and rest < 1 stay;"
            + "when rest > 0 and rest < 2 stay; when run > 0 go; stay");
        x.team(4, 20, 0, 0, 0);
        x.team(4, 20, 0, 0, 1);
        x.run(1);
        Checks.due("none holds: 100", x.did(0), 100);
        Checks.due("it goes", x.about(0, 9), 1);
        Checks.due("the last holds", x.did(1), 3);
        x.run(1);
        Checks.due("the second holds", x.did(1), 1);
        x.follow(1, 0);
        Checks.due("did of the PLAN before", x.did(1), 1);
        x.run(5);
        Checks.due("it stays", x.did(0), 0);
    }

    /** Does the TEST hold in a TEAM's second STEP behind a first one of go? */
    private static boolean holds(String test) {
        SledHouse x = Checks.house(Checks.legs(500, 100, 500, 100), "when run < 1 go; when " + test + " stay; go");
        x.cold(0, 333, -33);
        x.team(5, 77, 9, 40, 0);
        x.run(42);
        return x.did(0) == 1;
    }

    private static void exactly(String name, int value) {
        Checks.due(name + " <", holds(name + " < " + value), false);
        Checks.due(name + " < +1", holds(name + " < " + (value + 1)), true);
        Checks.due(name + " >", holds(name + " > " + value), false);
        if (value > 0) {
            Checks.due(name + " > -1", holds(name + " > " + (value - 1)), true);
        }
    }

    private static void names() {
        exactly("run", 1);
        exactly("rest", 0);
        exactly("weak", 989);
        exactly("mean", 989);
        exactly("cold", 67);
        exactly("meals", 9);
        exactly("dogs", 5);
        // 30 * 989 * 5 * 100 / 100000 = 148; * 20 / 177 = 16
        exactly("left", 484);
        exactly("hour", 6);
        exactly("post", 99);
        exactly("load", 77);
        // hours go round by the day: STEP 150 is in hour 25
        SledHouse x = Checks.house(Checks.legs(500, 100), "when hour > 0 and hour < 2 go; stay");
        x.team(5, 20, 0, 0, 0);
        x.run(151);
        Checks.due("hour 1 of the second day", x.about(0, 9), 1);
        // at the start
        x = Checks.house(Checks.legs(500, 100), "when post < 1 and left > 499 and left < 501 stay; go");
        x.team(5, 20, 0, 0, 0);
        x.run(1);
        Checks.due("left and post at a checkpoint", x.did(0), 0);
    }
}
