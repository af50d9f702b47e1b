/** Promises 11, 12, 22, 23: gap, each, spot, signs. */
public final class SignTest {
    public static void main(String[] args) {
        gaps();
        everySix();
        spots();
        lateGap();
        Checks.end("SignTest");
    }

    private static void gaps() {
        SledHouse x = Checks.house(Checks.legs(2000, 100), "go");
        x.team(4, 20, 0, 0, 0);
        Checks.refused(x, "gap(1, 5, 4)", x.gap(1, 5, 4), 1);
        Checks.refused(x, "gap(-1, 0, 0)", x.gap(-1, 0, 0), 1);
        Checks.refused(x, "gap(0, -1, 4)", x.gap(0, -1, 4), 2);
        Checks.refused(x, "gap(0, 0, 2001)", x.gap(0, 0, 2001), 2);
        Checks.refused(x, "gap(0, 5, 4)", x.gap(0, 5, 4), 2);
        Checks.granted(x, "gap(0, 2000, 2000)", x.gap(0, 2000, 2000), 1);
        Checks.granted(x, "gap(0, 0, 0)", x.gap(0, 0, 0), 2);
        Checks.granted(x, "gap(0, 12, 18)", x.gap(0, 12, 18), 3);
        Checks.granted(x, "gap(0, 1, 5)", x.gap(0, 1, 5), 4);
        Checks.refused(x, "fifth", x.gap(0, 1, 5), 3);
        Checks.refused(x, "fifth, wrong", x.gap(0, 6, 5), 2);
        int[] want = {0, 0, 0, 0, 0, 0, 1, 1, 1, 1, 1, 1, 1, 1, 1, 1, 1, 1, 1, 1, 1, 1, 1, 1, 2};
        for (int step = 0; step < want.length; step++) {
            x.run(1);
            Checks.due("signs behind " + step, x.signs(0), want[step]);
        }
    }

    private static void everySix() {
        SledHouse x = Checks.house(Checks.legs(46, 100), "go");
        x.team(4, 20, 0, 1, 0);
        x.team(4, 20, 0, 17, 0);
        Checks.due("none yet", x.signs(0), 0);
        x.run(6);
        Checks.due("waiting at 0", x.signs(0), 0);
        x.run(1);
        Checks.due("home, and told", x.signs(0), 1);
        Checks.due("waiting", x.signs(1), 0);
        x.run(12);
        Checks.due("home, and told again", x.signs(0), 3);
        Checks.due("told once", x.signs(1), 1);
    }

    /** EACH 4; START 2; ways behind the STEPS 2, 3, ..: 23, 46, 69, 92, 114, 136, 158 .. */
    private static void spots() {
        SledHouse x = Checks.house(Checks.legs(300, 100), "go");
        x.team(4, 20, 0, 2, 0);
        x.each(4);
        Checks.due("none done", x.spot(0, 0, true), -1);
        x.run(4);
        int[] ahead = {0, 0, 60, 120};
        for (int step = 0; step < 4; step++) {
            Checks.due("without a sign, least", x.spot(0, step, false), 0);
            Checks.due("without a sign, most", x.spot(0, step, true), ahead[step]);
        }
        x.run(8);
        Checks.due("signs", x.signs(0), 2);
        int four = 69;
        int eight = 158;
        int[] least = {0, 0, 0, four - 60, four, four, four, eight - 60, eight, eight, eight, eight};
        int[] most = {0, 0, 60, four, four, 129, eight, eight, eight, 218, 278, 300};
        for (int step = 0; step < 12; step++) {
            Checks.due("least at " + step, x.spot(0, step, false), least[step]);
            Checks.due("most at " + step, x.spot(0, step, true), most[step]);
        }
        Checks.due("spot(0, -1)", x.spot(0, -1, true), -1);
        Checks.due("spot(0, 12)", x.spot(0, 12, true), -1);
        Checks.due("spot(1, 0)", x.spot(1, 0, true), -1);
    }

    private static void lateGap() {
        SledHouse x = Checks.house(Checks.legs(2000, 100), "go");
        x.team(4, 20, 0, 0, 0);
        x.each(1);
        x.run(3);
        x.gap(0, 0, 4);
        x.run(3);
        Checks.due("signs of 0, 1, 2 and 5", x.signs(0), 4);
        Checks.due("least at 4", x.spot(0, 4, false), 136 - 60);
        Checks.due("most at 3", x.spot(0, 3, true), 129);
        Checks.due("most at 4", x.spot(0, 4, true), 136);
    }
}
