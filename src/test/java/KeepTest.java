/** Promises 24, 25, 26: replay, keep, back. */
public final class KeepTest {
    public static void main(String[] args) {
        replays();
        replayBehindBack();
        keeping();
        keptFromTheFirst();
        Checks.end("KeepTest");
    }

    private static void replays() {
        SledHouse x = Checks.house(Checks.legs(100, 100), "go", "stay", "when meals > 0 feed; when dogs > 1 leave; go");
        x.team(4, 20, 1, 2, 1);
        Checks.refused(x, "replay(1, 0, 9)", x.replay(1, 0, 9), 1);
        Checks.refused(x, "replay(-1, 0, 0)", x.replay(-1, 0, 0), 1);
        Checks.refused(x, "replay(0, 3, 9)", x.replay(0, 3, 9), 1);
        Checks.refused(x, "replay(0, -1, 0)", x.replay(0, -1, 0), 1);
        Checks.refused(x, "replay(0, 0, 4)", x.replay(0, 0, 4), 2);
        Checks.refused(x, "replay(0, 0, -1)", x.replay(0, 0, -1), 2);
        replay(x, 0, 0, 4, 0, -1);
        x.run(2);
        replay(x, 0, 0, 4, 0, -1);
        x.run(1);
        replay(x, 0, 23, 4, 1, -1);
        x.run(1);
        replay(x, 2, 0, 3, 1, -1);
        x.cold(0, 333, 20);
        x.run(3);
        // STEPS 2 to 5 at -20, STEP 6 at 20: 960 is the mean behind 5, 940 behind 6
        replay(x, 0, 100, 4, 2, 7);
        replay(x, 1, 0, 4, 1, -1);
        replay(x, 2, 14, 1, 1, -1);
        Checks.due("the team itself", x.about(0, 3), 0);
        Checks.due("its plan", x.about(0, 11), 1);
        x.follow(0, 0);
        replay(x, 1, 0, 4, 1, -1);
        SledHouse y = Checks.house(Checks.legs(2000, 200), "stay", "go");
        y.team(4, 300, 0, 0, 0);
        y.run(60);
        Checks.due("out", y.replay(0, 1, 2), 3);
        Checks.due("none pulls", y.replay(0, 1, 1), 0);
    }

    private static void replay(SledHouse x, int plan, int... want) {
        for (int what = 0; what < 4; what++) {
            Checks.granted(x, "replay(0, " + plan + ", " + what + ")", x.replay(0, plan, what), want[what]);
        }
    }

    private static void replayBehindBack() {
        SledHouse x = Checks.house(Checks.legs(2000, 100), "go", "stay");
        x.keep();
        x.team(4, 20, 0, 0, 1);
        x.run(1);
        Checks.due("way", x.replay(0, 0, 0), 23);
        x.back();
        Checks.refused(x, "no team", x.replay(0, 0, 0), 1);
        x.team(8, 20, 0, 0, 1);
        Checks.due("way", x.replay(0, 0, 0), 0);
        x.run(1);
        // 30 * 990 * 8 * 100 / 100000 = 237; * 20 / 180 = 26
        Checks.due("way of another team", x.replay(0, 0, 0), 26);
    }

    private static void keeping() {
        SledHouse x = Checks.house(Checks.legs(60, 100, 60, 100), "go", "stay");
        Checks.refused(x, "back()", x.back(), 1);
        x.team(5, 20, 0, 0, 0);
        x.each(2);
        x.gap(0, 100, 101);
        x.cold(0, 0, 20);
        x.run(4);
        int[] before = picture(x);
        Checks.due("keep()", x.keep(), true);
        for (int i = 0; i < 3; i++) {
            Checks.plan(x, i == 0 ? "stay;stay" : "leave");
            Checks.laws(x, "dogs 9");
            Checks.tape(x, "go");
            int tape = x.count(6);
            x.follow(0, 1);
            x.cold(0, 333, -50);
            x.gap(0, 0, 2000);
            x.run(10 + i);
            Checks.granted(x, "back()", x.back());
            same(before, picture(x));
            Checks.due("plans stay", x.count(2), 3 + i);
            Checks.due("laws stay", x.count(3), 1 + i);
            Checks.due("the tape stays", x.count(6), tape);
            x.plan(0);
        }
        Checks.due("gaps as kept", x.gap(0, 0, 0), 2);
        x.back();
        x.run(4);
        // a STEP of hour 0 and then -20 as kept
        Checks.due("cold as kept", x.dog(0, 0, 0), 1000 - 6 * 20);
        int[] after = picture(x);
        x.keep();
        x.run(1);
        x.back();
        same(after, picture(x));
    }

    private static int[] picture(SledHouse x) {
        int[] all = new int[80];
        int n = 0;
        for (int what = 0; what <= 12; what++) {
            all[n++] = x.about(0, what);
        }
        for (int dog = 0; dog < 5; dog++) {
            for (int what = 0; what < 3; what++) {
                all[n++] = x.dog(0, dog, what);
            }
        }
        for (int post = 0; post < 3; post++) {
            all[n++] = x.time(0, post, false);
            all[n++] = x.time(0, post, true);
            all[n++] = x.came(post, 9);
        }
        for (int step = 0; step < 6; step++) {
            all[n++] = x.spot(0, step, false);
            all[n++] = x.spot(0, step, true);
        }
        all[n++] = x.signs(0);
        all[n++] = x.did(0);
        all[n++] = x.count(0);
        all[n++] = x.count(1);
        all[n++] = x.count(4);
        all[n++] = x.count(5);
        return all;
    }

    private static void same(int[] want, int[] got) {
        for (int i = 0; i < want.length; i++) {
            Checks.due("as kept, " + i, got[i], want[i]);
        }
    }

    /** Kept ahead of the first STEP: LEGS, TEAMS and EACH come back too. */
    private static void keptFromTheFirst() {
        SledHouse x = Checks.house(Checks.legs(500, 100), "go");
        x.keep();
        x.leg(70, 100);
        x.team(4, 20, 0, 0, 0);
        x.team(4, 20, 0, 1, 0);
        x.each(1);
        x.gap(0, 3, 3);
        x.run(9);
        Checks.due("signs", x.signs(0), 8);
        x.back();
        Checks.due("legs", x.count(0), 1);
        Checks.due("whole", x.count(5), 500);
        Checks.due("teams", x.count(1), 0);
        Checks.due("steps", x.count(4), 0);
        Checks.due("team", x.team(6, 30, 3, 2, 0), 0);
        Checks.about(x, 0, 0, 0, 0, 0, 6, 0, 0, 30, 3, 0, 0, 0, 2);
        x.run(9);
        Checks.due("signs of each 6", x.signs(0), 1);
        Checks.due("dog 5", x.dog(0, 5, 0), 930);
        x.back();
        x.each(1);
        Checks.due("team", x.team(6, 30, 3, 2, 0), 0);
        x.run(9);
        Checks.due("signs of each 1", x.signs(0), 7);
    }
}
