/** Promises 9, 10, 12, 13, 14, 15: team, follow, each, run, about, dog: what is asked and what is refused. */
public final class TeamTest {
    public static void main(String[] args) {
        teams();
        following();
        eachRefused();
        running();
        endOfTime();
        asked();
        Checks.end("TeamTest");
    }

    private static void teams() {
        SledHouse x = new SledHouse();
        Checks.plan(x, "go");
        Checks.refused(x, "no leg", x.team(4, 20, 0, 0, 9), 5);
        x.leg(100, 100);
        Checks.refused(x, "plan 1", x.team(0, 20, 0, 0, 1), 1);
        Checks.refused(x, "plan -1", x.team(4, 20, 0, 0, -1), 1);
        Checks.refused(x, "3 dogs", x.team(3, 20, 0, 0, 0), 2);
        Checks.refused(x, "17 dogs", x.team(17, 20, 0, 0, 0), 2);
        Checks.refused(x, "load 19", x.team(4, 19, 0, 0, 0), 2);
        Checks.refused(x, "load 301", x.team(4, 301, 0, 0, 0), 2);
        Checks.refused(x, "meals -1", x.team(4, 20, -1, 0, 0), 2);
        Checks.refused(x, "meals 61", x.team(4, 20, 61, 0, 0), 2);
        Checks.refused(x, "start -1", x.team(4, 20, 0, -1, 0), 2);
        Checks.refused(x, "start 101", x.team(4, 20, 0, 101, 0), 2);
        Checks.due("count(1)", x.count(1), 0);
        Checks.granted(x, "least", x.team(4, 20, 0, 0, 0), 0);
        Checks.granted(x, "most", x.team(16, 300, 60, 100, 0), 1);
        for (int i = 2; i < 6; i++) {
            Checks.granted(x, "team", x.team(5, 50, 5, 5, 0), i);
        }
        Checks.refused(x, "seventh", x.team(5, 50, 5, 5, 0), 3);
        Checks.refused(x, "seventh, wrong", x.team(50, 50, 5, 5, 0), 2);
        Checks.about(x, 1, 0, 0, 0, 0, 16, 0, 0, 300, 60, 0, 0, 0, 100, -1);
        x.run(1);
        Checks.refused(x, "late", x.team(5, 50, 5, 5, 9), 5);
    }

    private static void following() {
        SledHouse x = Checks.house(Checks.legs(40, 100), "go", "stay");
        x.team(4, 20, 0, 1, 0);
        x.team(4, 20, 0, 0, 1);
        Checks.refused(x, "follow(2, 0)", x.follow(2, 0), 1);
        Checks.refused(x, "follow(-1, 0)", x.follow(-1, 0), 1);
        Checks.refused(x, "follow(0, 2)", x.follow(0, 2), 1);
        Checks.refused(x, "follow(0, -1)", x.follow(0, -1), 1);
        Checks.granted(x, "follow(0, 1)", x.follow(0, 1));
        Checks.due("about(0, 11)", x.about(0, 11), 1);
        x.run(3);
        Checks.due("about(0, 10)", x.about(0, 10), 2);
        Checks.granted(x, "follow(0, 0)", x.follow(0, 0));
        x.run(2);
        Checks.due("about(0, 0)", x.about(0, 0), 2);
        Checks.due("about(0, 11)", x.about(0, 11), 0);
        Checks.refused(x, "HOME", x.follow(0, 1), 5);
        Checks.refused(x, "HOME, no plan", x.follow(0, 2), 1);
        Checks.due("about(0, 11)", x.about(0, 11), 0);
    }

    private static void eachRefused() {
        SledHouse x = Checks.house(Checks.legs(400, 100), "go");
        x.team(4, 20, 0, 0, 0);
        Checks.refused(x, "each(0)", x.each(0), 2);
        Checks.refused(x, "each(49)", x.each(49), 2);
        Checks.granted(x, "each(1)", x.each(1));
        Checks.granted(x, "each(48)", x.each(48));
        x.run(1);
        Checks.refused(x, "each(0), late", x.each(0), 5);
    }

    private static void running() {
        SledHouse x = Checks.house(Checks.legs(100, 100), "go");
        Checks.refused(x, "no team", x.run(0), 5);
        x.team(4, 20, 0, 2, 0);
        Checks.refused(x, "run(0)", x.run(0), 2);
        Checks.refused(x, "run(501)", x.run(501), 2);
        Checks.refused(x, "run(-1)", x.run(-1), 2);
        Checks.granted(x, "run(2)", x.run(2), 2);
        Checks.about(x, 0, 0, 0, 0, 0, 4, 0, 0, 20, 0, 0, 0, 0, 2);
        Checks.granted(x, "run(1)", x.run(1), 1);
        Checks.about(x, 0, 1, 0, 23, 23, 4, 0, 0, 20, 0, 1, 0, 0, 2);
        Checks.granted(x, "run(500)", x.run(500), 4);
        Checks.refused(x, "over", x.run(0), 5);
        Checks.due("count(4)", x.count(4), 7);
    }

    private static void endOfTime() {
        SledHouse x = Checks.house(Checks.legs(100, 100), "stay");
        x.team(4, 20, 0, 0, 0);
        x.each(1);
        for (int i = 0; i < 3; i++) {
            Checks.granted(x, "run(500)", x.run(500), 500);
        }
        Checks.granted(x, "run(499)", x.run(499), 499);
        Checks.granted(x, "run(500)", x.run(500), 1);
        Checks.refused(x, "run(1)", x.run(1), 5);
        Checks.due("count(4)", x.count(4), 2000);
        Checks.due("signs(0)", x.signs(0), 2000);
        Checks.due("spot(0, 1999, true)", x.spot(0, 1999, true), 0);
        Checks.due("spot(0, 2000, true)", x.spot(0, 2000, true), -1);
        Checks.granted(x, "replay", x.replay(0, 0, 2), 1);
    }

    private static void asked() {
        SledHouse x = Checks.house(Checks.legs(100, 100), "go");
        x.team(4, 20, 0, 2, 0);
        int[] wrong = {-1, 1, 6, Integer.MIN_VALUE, Integer.MAX_VALUE};
        for (int team : wrong) {
            Checks.due("about", x.about(team, 0), -1);
            Checks.due("dog", x.dog(team, 0, 0), -1);
            Checks.due("time", x.time(team, 0, false), -1);
            Checks.due("did", x.did(team), -1);
            Checks.due("result", x.result(team), -1);
            Checks.due("lacks", x.lacks(team, 0), -1);
            Checks.due("spot", x.spot(team, 0, false), -1);
            Checks.due("signs", x.signs(team), -1);
            Checks.due("place", x.place(team), -1);
        }
        Checks.due("about(0, -1)", x.about(0, -1), -1);
        Checks.due("about(0, 13)", x.about(0, 13), -1);
        Checks.due("dog(0, -1, 0)", x.dog(0, -1, 0), -1);
        Checks.due("dog(0, 4, 0)", x.dog(0, 4, 0), -1);
        Checks.due("dog(0, 3, 0)", x.dog(0, 3, 0), 1000);
        Checks.due("dog(0, 3, 1)", x.dog(0, 3, 1), 0);
        Checks.due("dog(0, 3, 2)", x.dog(0, 3, 2), -1);
        Checks.due("dog(0, 3, 3)", x.dog(0, 3, 3), -1);
        Checks.due("dog(0, 3, -1)", x.dog(0, 3, -1), -1);
        Checks.due("trouble()", x.trouble(), 0);
    }
}
