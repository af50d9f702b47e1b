/** Promises 1, 2, 3, 29: a new object, leg, cold, count. */
public final class TrailTest {
    public static void main(String[] args) {
        newObject();
        legs();
        colds();
        counts();
        Checks.end("TrailTest");
    }

    private static void newObject() {
        SledHouse x = new SledHouse();
        for (int what = 0; what <= 6; what++) {
            Checks.due("count(" + what + ")", x.count(what), 0);
        }
        Checks.due("trouble()", x.trouble(), 0);
        Checks.due("fault()", x.fault(), 0);
        Checks.due("where()", x.where(), -1);
        Checks.due("about(0, 0)", x.about(0, 0), -1);
        Checks.due("place(0)", x.place(0), -1);
        Checks.due("signs(0)", x.signs(0), -1);
        Checks.due("spot(0, 0, true)", x.spot(0, 0, true), -1);
        Checks.due("came(1, 0)", x.came(1, 0), -1);
        Checks.refused(x, "replay(0, 0, 0)", x.replay(0, 0, 0), 1);
        Checks.refused(x, "run(501)", x.run(501), 5);
    }

    private static void legs() {
        SledHouse x = new SledHouse();
        Checks.refused(x, "leg(9, 100)", x.leg(9, 100), 2);
        Checks.refused(x, "leg(2001, 100)", x.leg(2001, 100), 2);
        Checks.refused(x, "leg(10, 49)", x.leg(10, 49), 2);
        Checks.refused(x, "leg(10, 201)", x.leg(10, 201), 2);
        Checks.refused(x, "leg(MIN, MAX)", x.leg(Integer.MIN_VALUE, Integer.MAX_VALUE), 2);
        Checks.granted(x, "leg(10, 50)", x.leg(10, 50), 1);
        Checks.granted(x, "leg(2000, 200)", x.leg(2000, 200), 2);
        for (int i = 3; i <= 12; i++) {
            Checks.granted(x, "leg(100, 100)", x.leg(100, 100), i);
        }
        Checks.refused(x, "leg 13", x.leg(100, 100), 3);
        Checks.refused(x, "leg 13, wrong", x.leg(0, 100), 2);
        Checks.due("count(0)", x.count(0), 12);
        Checks.due("count(5)", x.count(5), 3010);
        Checks.plan(x, "go");
        Checks.granted(x, "team", x.team(4, 20, 0, 0, 0), 0);
        x.run(1);
        Checks.refused(x, "leg late", x.leg(0, 0), 5);
    }

    private static void colds() {
        SledHouse x = Checks.house(Checks.legs(2000, 100), "when cold < 81 and cold > 79 stay; go");
        Checks.refused(x, "cold(-1, 0, 0)", x.cold(-1, 0, 0), 2);
        Checks.refused(x, "cold(0, 334, 0)", x.cold(0, 334, 0), 2);
        Checks.refused(x, "cold(5, 4, 0)", x.cold(5, 4, 0), 2);
        Checks.refused(x, "cold(0, 1, -51)", x.cold(0, 1, -51), 2);
        Checks.refused(x, "cold(0, 1, 21)", x.cold(0, 1, 21), 2);
        Checks.granted(x, "cold(333, 333, -50)", x.cold(333, 333, -50));
        Checks.granted(x, "cold(2, 3, 20)", x.cold(2, 3, 20));
        x.team(4, 20, 0, 0, 0);
        x.run(12);
        Checks.due("stays at -20", x.about(0, 10), 12);
        x.run(12);
        Checks.due("goes in hours 2 and 3", x.about(0, 9), 12);
        Checks.due("20 less for each", x.dog(0, 0, 0), 1000 - 12 * 20);
        x.run(1);
        Checks.due("stays again", x.about(0, 10), 1);
        // one STEP of hour 4 is done: it stays as it was, hour 5 doesn't
        Checks.granted(x, "cold(0, 5, -31)", x.cold(0, 5, -31));
        x.run(5);
        Checks.due("hour 4", x.about(0, 10), 6);
        x.run(6);
        Checks.due("hour 5", x.about(0, 9), 6);
    }

    private static void counts() {
        SledHouse x = Checks.house(Checks.legs(100, 100, 200, 100, 300, 100), "go", "stay");
        Checks.laws(x, "dogs 1; dogs 2; dogs 3; dogs 4; dogs 5");
        x.team(4, 20, 0, 0, 1);
        x.team(4, 20, 0, 0, 1);
        x.team(4, 20, 0, 0, 1);
        x.team(4, 20, 0, 0, 1);
        x.run(7);
        Checks.tape(x, "go");
        int[] want = {3, 4, 2, 5, 7, 600, 20, -1};
        for (int what = 0; what < want.length; what++) {
            Checks.due("count(" + what + ")", x.count(what), want[what]);
        }
        Checks.due("count(-1)", x.count(-1), -1);
    }
}
