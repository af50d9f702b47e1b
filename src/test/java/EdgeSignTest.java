/** The edges of term VI and of promises 11, 12, 22, 23: gap, each, spot, signs. */
public final class EdgeSignTest {
    private static final int[] FAR = {-1, Integer.MIN_VALUE, Integer.MAX_VALUE};
    /** Ways behind STEPS of go of 4 DOGS with LOAD 20 on plain trail. */
    private static final int[] WAYS = {23, 46, 69, 92, 114, 136, 158, 180, 201, 222, 243, 264, 284};

    public static void main(String[] args) {
        eachBounds();
        eachRefusals();
        eachAtFirst();
        multiples();
        notWaiting();
        homeAndOut();
        gapBounds();
        gapRefusals();
        gapsFull();
        inGaps();
        toCome();
        signCounts();
        spotSteps();
        leastWithout();
        leastOfNext();
        mostOfNext();
        mostOfLatest();
        whileItWaits();
        atTheSign();
        Checks.end("EdgeSignTest");
    }

    private static SledHouse plain(int each, int start) {
        SledHouse x = Checks.house(Checks.legs(2000, 100), "go");
        x.each(each);
        Checks.granted(x, "team", x.team(4, 20, 0, start, 0), 0);
        return x;
    }

    private static void eachBounds() {
        Checks.sentence("EACH becomes it: true; false: 5 (STEPS were done); 2.");
        SledHouse x = plain(6, 0);
        Checks.granted(x, "each(48)", x.each(48));
        Checks.granted(x, "each(1)", x.each(1));
        x.run(10);
        Checks.due("the latest counts", x.signs(0), 10);
        for (int steps : new int[] {0, 49, -1, -6, Integer.MIN_VALUE, Integer.MAX_VALUE}) {
            Twins.denied(Houses::laid, "each(" + steps + ")", y -> y.each(steps), 2);
        }
        Twins.denied(SledHouse::new, "each(0)", y -> y.each(0), 2);
        x = new SledHouse();
        Checks.granted(x, "without LEGS or TEAMS", x.each(1));
    }

    private static void eachRefusals() {
        Checks.sentence("false: 5 (STEPS were done); 2.");
        Twins.denied(() -> Twins.after(Houses::laid, x -> x.run(1)), "behind one STEP", x -> x.each(1), 5);
        Twins.denied(Houses::racing, "in the race", x -> x.each(1), 5);
        Twins.denied(Houses::over, "behind it", x -> x.each(1), 5);
        Twins.denied(Houses::racing, "5 ahead of 2", x -> x.each(0), 5);
        Twins.denied(Houses::racing, "5 ahead of 2", x -> x.each(49), 5);
    }

    private static void eachAtFirst() {
        Checks.sentence("EACH (1 .. 48; 6 at first)");
        SledHouse x = Checks.house(Checks.legs(2000, 100), "go");
        x.team(4, 20, 0, 0, 0);
        int[] signs = {1, 1, 1, 1, 1, 1, 2, 2, 2, 2, 2, 2, 3};
        for (int step = 0; step < signs.length; step++) {
            x.run(1);
            Checks.due("behind STEP " + step, x.signs(0), signs[step]);
        }
    }

    private static void multiples() {
        Checks.sentence("is told behind each STEP whose number is a multiple of EACH");
        SledHouse x = plain(48, 0);
        Checks.due("ahead of the first", x.signs(0), 0);
        int[][] want = {{1, 1}, {48, 1}, {49, 2}, {96, 2}, {97, 3}};
        for (int[] one : want) {
            x.run(one[0] - x.count(4));
            Checks.due("behind " + one[0] + " STEPS", x.signs(0), one[1]);
        }
        x = Checks.house(Checks.legs(2000, 100), "stay");
        x.each(1);
        x.team(4, 20, 0, 0, 0);
        for (int i = 0; i < 4; i++) {
            x.run(500);
        }
        Checks.due("of all STEPS", x.signs(0), 2000);
        x = Checks.house(Checks.legs(2000, 100), "stay");
        x.each(47);
        x.team(4, 20, 0, 0, 0);
        for (int i = 0; i < 4; i++) {
            x.run(500);
        }
        // 42 * 47 = 1974
        Checks.due("of 0, 47, .. 1974", x.signs(0), 43);
    }

    private static void notWaiting() {
        Checks.sentence("a TEAM that is not WAITING is told");
        int[][] want = {{5, 1}, {6, 1}, {7, 0}};
        for (int[] one : want) {
            SledHouse x = plain(6, one[0]);
            x.run(6);
            Checks.due("START " + one[0] + ", STEP 0", x.signs(0), 0);
            x.run(1);
            Checks.due("START " + one[0] + ", STEP 6", x.signs(0), one[1]);
        }
    }

    private static void homeAndOut() {
        Checks.sentence("its way, all LENGTHS from the start");
        SledHouse x = Checks.house(Checks.legs(10, 200, 60, 200), "go", "stay");
        x.each(1);
        x.team(4, 20, 0, 0, 0);
        x.team(4, 20, 0, 0, 1);
        x.run(60);
        Checks.due("HOME", x.about(0, 0), 2);
        Checks.due("signs of it", x.signs(0), 60);
        Checks.due("its way", x.spot(0, 59, true), 70);
        Checks.due("its way", x.spot(0, 59, false), 70);
        x = Checks.house(Checks.legs(2000, 200), "go", "stay");
        x.each(1);
        x.team(4, 300, 0, 0, 0);
        x.team(4, 20, 0, 0, 1);
        x.run(60);
        Checks.due("OUT", x.about(0, 0), 3);
        Checks.due("signs of it", x.signs(0), 60);
        Checks.due("its way", x.spot(0, 59, true), x.about(0, 3));
    }

    private static void gapBounds() {
        Checks.sentence("A GAP more of a TEAM (STEPS 0 .. 2,000, to not below from): how many; NONE: 1; 2; 3.");
        SledHouse x = plain(6, 0);
        Checks.granted(x, "gap(0, 0, 0)", x.gap(0, 0, 0), 1);
        Checks.granted(x, "gap(0, 2000, 2000)", x.gap(0, 2000, 2000), 2);
        Checks.granted(x, "gap(0, 0, 2000)", x.gap(0, 0, 2000), 3);
        Checks.granted(x, "gap(0, 7, 7)", x.gap(0, 7, 7), 4);
        int[][] wrong = {{-1, 0}, {-1, -1}, {0, 2001}, {2001, 2001}, {1, 0}, {2000, 1999}, {2000, 0},
            {Integer.MIN_VALUE, 5}, {5, Integer.MAX_VALUE}, {5, Integer.MIN_VALUE}, {Integer.MAX_VALUE, 5},
            {Integer.MIN_VALUE, Integer.MAX_VALUE}};
        for (int[] one : wrong) {
            String name = "gap(1, " + one[0] + ", " + one[1] + ")";
            Twins.refused(Houses::laid, name, y -> y.gap(1, one[0], one[1]), 2);
        }
    }

    private static void gapRefusals() {
        for (int team : new int[] {-1, 3, 6, Integer.MIN_VALUE, Integer.MAX_VALUE}) {
            Twins.refused(Houses::laid, "TEAM " + team, x -> x.gap(team, 0, 0), 1);
            Twins.refused(Houses::laid, "1 ahead of 2", x -> x.gap(team, 1, 0), 1);
        }
        Twins.refused(SledHouse::new, "no TEAM", x -> x.gap(0, 0, 0), 1);
        Twins.refused(Houses::full, "1 ahead of 3", x -> x.gap(6, 0, 0), 1);
        Twins.refused(Houses::full, "2 ahead of 3", x -> x.gap(5, 1, 0), 2);
        SledHouse x = Houses.racing();
        Checks.granted(x, "in the race", x.gap(0, 0, 0), 2);
        x = Houses.over();
        Checks.granted(x, "HOME", x.gap(0, 0, 0), 1);
        Checks.granted(x, "OUT", x.gap(1, 0, 0), 1);
    }

    private static void gapsFull() {
        Checks.sentence("but not in its GAPS (STEPS from up to to; 4 of a TEAM)");
        SledHouse x = Houses.laid();
        for (int i = 1; i <= 4; i++) {
            Checks.granted(x, "gap " + i, x.gap(1, i, i), i);
        }
        Checks.refused(x, "the fifth", x.gap(1, 9, 9), 3);
        Checks.granted(x, "of another TEAM", x.gap(2, 9, 9), 1);
        for (int team = 0; team < 6; team++) {
            int one = team;
            Twins.refused(Houses::full, "the fifth of " + team, y -> y.gap(one, 0, 2000), 3);
        }
    }

    private static void inGaps() {
        Checks.sentence("(STEPS from up to to;");
        SledHouse x = plain(1, 0);
        x.gap(0, 3, 5);
        x.gap(0, 9, 9);
        x.gap(0, 0, 0);
        x.gap(0, 4, 6);
        int[] signs = {0, 1, 2, 2, 2, 2, 2, 3, 4, 4, 5, 6};
        for (int step = 0; step < signs.length; step++) {
            x.run(1);
            Checks.due("behind STEP " + step, x.signs(0), signs[step]);
        }
        x = plain(1, 0);
        x.gap(0, 0, 2000);
        x.run(50);
        Checks.due("all is one GAP", x.signs(0), 0);
        Checks.due("least", x.spot(0, 49, false), 0);
        Checks.due("most", x.spot(0, 30, true), 60 * 31);
        // a GAP of another TEAM
        x = plain(1, 0);
        x.team(4, 20, 0, 0, 0);
        x.gap(1, 0, 2000);
        x.run(5);
        Checks.due("of this one", x.signs(0), 5);
        Checks.due("of the other", x.signs(1), 0);
    }

    private static void toCome() {
        Checks.sentence("(Of signs to come.)");
        SledHouse x = plain(1, 0);
        x.run(5);
        Checks.granted(x, "gap", x.gap(0, 0, 6), 1);
        Checks.due("those that came stay", x.signs(0), 5);
        Checks.due("told", x.spot(0, 4, false), WAYS[4]);
        x.run(2);
        Checks.due("STEPS 5 and 6", x.signs(0), 5);
        x.run(1);
        Checks.due("STEP 7", x.signs(0), 6);
    }

    private static void signCounts() {
        Checks.sentence("How many SIGNS came of a TEAM; NONE.");
        SledHouse x = plain(6, 0);
        Checks.due("none yet", x.signs(0), 0);
        Checks.due("signs(1)", x.signs(1), -1);
        for (int far : FAR) {
            Checks.due("signs(" + far + ")", x.signs(far), -1);
        }
        Checks.due("no TEAM", new SledHouse().signs(0), -1);
        Checks.due("the sixth", Houses.full().signs(5), 0);
        Checks.due("no seventh", Houses.full().signs(6), -1);
    }

    private static void spotSteps() {
        Checks.sentence("SPOT of a TEAM, the least (or the greatest) way; NONE for no such TEAM, STEP.");
        SledHouse x = plain(1, 0);
        for (int i = 0; i < 2; i++) {
            boolean most = i == 1;
            Checks.due("no STEP was done", plain(1, 0).spot(0, 0, most), -1);
            x = plain(1, 0);
            x.run(4);
            Checks.due("the first", x.spot(0, 0, most), WAYS[0]);
            Checks.due("the latest", x.spot(0, 3, most), WAYS[3]);
            Checks.due("beyond the latest", x.spot(0, 4, most), -1);
            Checks.due("no such TEAM", x.spot(1, 0, most), -1);
            for (int far : FAR) {
                Checks.due("STEP " + far, x.spot(0, far, most), -1);
                Checks.due("TEAM " + far, x.spot(far, 0, most), -1);
            }
            Checks.due("none at all", new SledHouse().spot(0, 0, most), -1);
            // the latest SIGN is of STEP 1998
            Checks.due("STEP 1999", Houses.late().spot(0, 1999, most), most ? 60 : 0);
            Checks.due("STEP 2000", Houses.late().spot(0, 2000, most), -1);
        }
    }

    private static void leastWithout() {
        Checks.sentence("at least its way at the latest SIGN then or ahead (0 without)");
        SledHouse x = plain(6, 0);
        x.gap(0, 0, 0);
        x.run(6);
        for (int step = 0; step < 6; step++) {
            Checks.due("without a SIGN, STEP " + step, x.spot(0, step, false), 0);
        }
        x = plain(6, 0);
        x.run(6);
        for (int step = 0; step < 6; step++) {
            Checks.due("of STEP 0, STEP " + step, x.spot(0, step, false), WAYS[0]);
        }
    }

    private static void leastOfNext() {
        Checks.sentence("what the next SIGN behind it (of those that came) tells less 60 for each STEP between");
        SledHouse x = plain(12, 0);
        x.gap(0, 0, 0);
        x.run(12);
        Checks.due("it has not come yet", x.spot(0, 11, false), 0);
        x.run(1);
        for (int step = 0; step < 12; step++) {
            int want = Math.max(0, WAYS[12] - 60 * (12 - step));
            Checks.due("STEP " + step, x.spot(0, step, false), want);
        }
        // 284 less 4 * 60 is 44, less 5 * 60 would be below 0
        Checks.due("STEP 8", x.spot(0, 8, false), 44);
        Checks.due("STEP 7", x.spot(0, 7, false), 0);
        // a next SIGN that was to come in a GAP isn't one
        x = plain(4, 0);
        x.gap(0, 4, 4);
        x.run(9);
        Checks.due("STEP 3", x.spot(0, 3, false), WAYS[0]);
        Checks.due("STEP 6", x.spot(0, 6, false), WAYS[8] - 2 * 60);
        Checks.due("STEP 5: the latest tells as much", x.spot(0, 5, false), Math.max(WAYS[0], WAYS[8] - 3 * 60));
    }

    private static void mostOfNext() {
        Checks.sentence("at most its way at that next SIGN (the whole trail without)");
        SledHouse x = Checks.house(Checks.legs(100, 100, 50, 100), "go");
        x.each(48);
        x.team(4, 20, 0, 0, 0);
        x.run(4);
        Checks.due("STEP 2", x.spot(0, 2, true), 23 + 2 * 60);
        Checks.due("STEP 3: the whole trail", x.spot(0, 3, true), 150);
        x = plain(4, 0);
        x.run(5);
        Checks.due("STEP 1: the latest SIGN", x.spot(0, 1, true), 83);
        Checks.due("STEP 2: the next SIGN", x.spot(0, 2, true), WAYS[4]);
        Checks.due("STEP 3: the next SIGN", x.spot(0, 3, true), WAYS[4]);
    }

    private static void mostOfLatest() {
        Checks.sentence("and that of the latest SIGN and 60 more for each STEP between");
        SledHouse x = plain(6, 0);
        x.run(6);
        for (int step = 0; step < 6; step++) {
            Checks.due("STEP " + step, x.spot(0, step, true), WAYS[0] + 60 * step);
        }
        x.run(6);
        Checks.due("STEP 6", x.spot(0, 6, true), WAYS[6]);
        Checks.due("STEP 11", x.spot(0, 11, true), WAYS[6] + 5 * 60);
    }

    private static void whileItWaits() {
        Checks.sentence("(without one 60 for each STEP from its START on, this one too; 0 while it WAITS)");
        SledHouse x = plain(48, 3);
        x.run(40);
        int[] want = {0, 0, 0, 60, 120, 180};
        for (int step = 0; step < want.length; step++) {
            Checks.due("STEP " + step, x.spot(0, step, true), want[step]);
            Checks.due("least", x.spot(0, step, false), 0);
        }
        Checks.due("STEP 35", x.spot(0, 35, true), 33 * 60);
        Checks.due("STEP 36: the whole trail", x.spot(0, 36, true), 2000);
        // a next SIGN tells less than that
        x = plain(6, 3);
        x.run(7);
        int[] most = {0, 0, 0, 60, 92, 92, 92};
        int[] least = {0, 0, 0, 0, 0, 32, 92};
        for (int step = 0; step < 7; step++) {
            Checks.due("STEP " + step, x.spot(0, step, true), most[step]);
            Checks.due("STEP " + step, x.spot(0, step, false), least[step]);
        }
        // one that WAITS still
        x = plain(6, 100);
        x.run(50);
        Checks.due("it WAITS", x.spot(0, 49, true), 0);
        Checks.due("it WAITS", x.spot(0, 49, false), 0);
    }

    private static void atTheSign() {
        Checks.sentence("SPOT at a STEP (behind it; not beyond the latest)");
        SledHouse x = plain(3, 0);
        x.run(13);
        for (int step = 0; step < 13; step += 3) {
            Checks.due("least at the SIGN of " + step, x.spot(0, step, false), WAYS[step]);
            Checks.due("most at the SIGN of " + step, x.spot(0, step, true), WAYS[step]);
        }
        // where it truly is lies between
        for (int step = 0; step < 13; step++) {
            Checks.due("least", x.spot(0, step, false) <= WAYS[step], true);
            Checks.due("most", x.spot(0, step, true) >= WAYS[step], true);
        }
    }
}
