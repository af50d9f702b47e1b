import java.util.Arrays;
import java.util.List;
import java.util.function.Supplier;

/** The edges of promises 24, 25, 26: replay, keep, back. */
public final class EdgeKeepTest {
    /** Objects at all times of a race; each has a PLAN. */
    private static final List<Supplier<SledHouse>> TIMES = Arrays.asList(EdgeKeepTest::onlyPlan, Houses::laid,
        Houses::racing, Houses::over, Houses::late, Houses::full);

    public static void main(String[] args) {
        replayRefusals();
        replayUpToNow();
        replayAsItBegan();
        replayStates();
        replayDays();
        replayOnlyAsks();
        keepIsTrue();
        keepOnlyKeeps();
        nothingKept();
        asItWasKept();
        timesAsKept();
        backAgain();
        inPlaceOfIt();
        tapeIsNotKept();
        textsAreNotKept();
        toldIsNotKept();
        textsSince();
        otherTeamsSince();
        Checks.end("EdgeKeepTest");
    }

    private static SledHouse onlyPlan() {
        SledHouse x = new SledHouse();
        Checks.plan(x, "go");
        return x;
    }

    private static void replayRefusals() {
        Checks.sentence("3 IN of the last checkpoint (NONE). NONE: 1; 2 (what).");
        for (int team : new int[] {-1, 3, 6, Integer.MIN_VALUE, Integer.MAX_VALUE}) {
            Twins.refused(Houses::racing, "TEAM " + team, x -> x.replay(team, 0, 0), 1);
        }
        for (int plan : new int[] {-1, 3, 8, Integer.MIN_VALUE, Integer.MAX_VALUE}) {
            Twins.refused(Houses::racing, "PLAN " + plan, x -> x.replay(0, plan, 0), 1);
        }
        for (int what : new int[] {-1, 4, Integer.MIN_VALUE, Integer.MAX_VALUE}) {
            Twins.refused(Houses::racing, "what " + what, x -> x.replay(0, 0, what), 2);
            Twins.refused(Houses::racing, "1 (TEAM) ahead of 2", x -> x.replay(3, 0, what), 1);
            Twins.refused(Houses::racing, "1 (PLAN) ahead of 2", x -> x.replay(0, 3, what), 1);
        }
        Twins.refused(SledHouse::new, "nothing there", x -> x.replay(0, 0, 0), 1);
        SledHouse x = Houses.racing();
        for (int what = 0; what < 3; what++) {
            Checks.due("the last TEAM and PLAN", x.replay(2, 2, what) >= 0, true);
            Checks.due("trouble()", x.trouble(), 0);
        }
        x.leg(0, 0);
        Checks.granted(x, "NONE that is no refusal", x.replay(2, 2, 3), -1);
    }

    private static void replay(SledHouse x, int plan, int... want) {
        for (int what = 0; what < 4; what++) {
            Checks.granted(x, "replay(0, " + plan + ", " + what + ")", x.replay(0, plan, what), want[what]);
        }
    }

    private static void replayUpToNow() {
        Checks.sentence("by another PLAN from its START on, on the same trail and days, up to now");
        SledHouse x = Checks.house(Checks.legs(46, 100), "stay", "go");
        x.team(4, 20, 0, 2, 0);
        replay(x, 1, 0, 4, 0, -1);
        x.run(2);
        replay(x, 1, 0, 4, 0, -1);
        x.run(1);
        replay(x, 1, 23, 4, 1, -1);
        x.run(1);
        replay(x, 1, 46, 4, 2, 4);
        x.run(1);
        replay(x, 1, 46, 4, 2, 4);
        replay(x, 0, 0, 4, 1, -1);
        // the last STEP
        SledHouse y = Houses.late();
        replay(y, 0, 0, 4, 1, -1);
    }

    private static void replayAsItBegan() {
        Checks.sentence("A TEAM as it began");
        SledHouse x = Checks.house(Checks.legs(2000, 100), "when meals > 0 feed; when dogs > 1 leave; go", "go");
        x.team(4, 20, 1, 0, 0);
        x.run(6);
        Checks.due("DOGS", x.about(0, 4), 1);
        Checks.due("MEALS", x.about(0, 8), 0);
        // by its own PLAN: a meal, three that are left, two STEPS gone alone (29 * 20 / 40 = 14 each)
        replay(x, 0, 28, 1, 1, -1);
        replay(x, 1, 136, 4, 1, -1);
        x.follow(0, 1);
        x.run(1);
        // all STEPS by the PLAN that is asked for, whatever it followed
        replay(x, 1, 158, 4, 1, -1);
        replay(x, 0, 42, 1, 1, -1);
    }

    private static void replayStates() {
        Checks.sentence("2 whether it is HOME (2), OUT (3), ON (1) or WAITS (0)");
        SledHouse x = Checks.house(Checks.legs(300, 200), "stay", "go");
        x.team(4, 300, 0, 3, 0);
        x.team(4, 20, 0, 0, 0);
        x.run(3);
        Checks.due("WAITS", x.replay(0, 1, 2), 0);
        x.run(47);
        Checks.due("ON", x.replay(0, 1, 2), 1);
        Checks.due("DOGS", x.replay(0, 1, 1), 4);
        x.run(1);
        Checks.due("OUT", x.replay(0, 1, 2), 3);
        Checks.due("DOGS", x.replay(0, 1, 1), 0);
        Checks.due("IN", x.replay(0, 1, 3), -1);
        Checks.due("HOME", x.replay(1, 1, 2), 2);
        Checks.due("IN", x.replay(1, 1, 3) > 0, true);
        // a TEAM that is OUT or HOME is replayed likewise
        x = Houses.over();
        Checks.due("OUT, but by another PLAN", x.replay(1, 1, 2), 1);
        Checks.due("HOME, but by another PLAN", x.replay(0, 1, 2), 1);
        Checks.due("HOME by its own", x.replay(0, 0, 3), x.time(0, 1, false));
    }

    private static void replayDays() {
        Checks.sentence("on the same trail and days");
        SledHouse x = Checks.house(Checks.legs(2000, 100), "stay", "go");
        x.cold(1, 1, 20);
        x.team(4, 20, 0, 0, 0);
        x.team(4, 20, 0, 0, 1);
        x.run(6);
        Checks.due("its way", x.replay(0, 1, 0), x.about(1, 3));
        // only hours that were not begun may change, and the replay goes on by them
        x.cold(0, 333, -50);
        x.cold(2, 2, 20);
        x.run(12);
        Checks.due("its way", x.replay(0, 1, 0), x.about(1, 3));
        Checks.due("its way", x.about(1, 3) > 0, true);
        x.run(500);
        Checks.due("OUT", x.about(1, 0), 3);
        Checks.due("OUT as well", x.replay(0, 1, 2), 3);
        Checks.due("its way", x.replay(0, 1, 0), x.about(1, 3));
    }

    private static void replayOnlyAsks() {
        Checks.sentence("A TEAM as it began, by another PLAN");
        Twins.same("replay()", Houses::racing, () -> Twins.after(Houses::racing, x -> {
            x.replay(0, 1, 0);
            x.replay(1, 2, 3);
            x.replay(0, 0, 9);
        }));
        // other TEAMS and PLANS asked in between don't matter
        SledHouse x = Houses.racing();
        int[] first = new int[9];
        for (int i = 0; i < 18; i++) {
            int answer = x.replay(i % 3, i / 3 % 3, 0);
            if (i < 9) {
                first[i] = answer;
            }
            Checks.due("asked again", answer, first[i % 9]);
        }
    }

    private static void keepIsTrue() {
        Checks.sentence("in place of what was kept): true.");
        for (Supplier<SledHouse> time : TIMES) {
            SledHouse x = time.get();
            Checks.due("keep()", x.keep(), true);
            Checks.due("keep() again", x.keep(), true);
        }
        Checks.due("of a new object", new SledHouse().keep(), true);
    }

    private static void keepOnlyKeeps() {
        Checks.sentence("All is KEPT as it is");
        for (Supplier<SledHouse> time : TIMES) {
            Twins.same("keep()", time, () -> Twins.after(time, SledHouse::keep));
        }
    }

    private static void nothingKept() {
        Checks.sentence("All is as it was KEPT; true; false (1) if nothing was.");
        Twins.denied(SledHouse::new, "back() of a new object", SledHouse::back, 1);
        for (Supplier<SledHouse> time : TIMES) {
            Twins.denied(time, "back() without keep()", SledHouse::back, 1);
        }
    }

    /** All that may change, as far as it may at that time. */
    private static void change(SledHouse x, int steps) {
        x.leg(57, 61);
        x.leg(2000, 200);
        x.cold(0, 333, 19);
        x.team(9, 99, 9, 1, 0);
        x.team(4, 300, 0, 0, 0);
        x.each(5);
        for (int team = 0; team < 3; team++) {
            x.gap(team, 3, 1999);
            x.follow(team, 0);
        }
        x.run(steps);
        x.replay(0, 0, 0);
    }

    private static void asItWasKept() {
        Checks.sentence("All is as it was KEPT");
        for (Supplier<SledHouse> time : TIMES) {
            for (int steps : new int[] {0, 1, 40, 500}) {
                Twins.same("back() behind " + steps + " STEPS", time, () -> Twins.after(time, x -> {
                    x.keep();
                    change(x, steps);
                    Checks.granted(x, "back()", x.back());
                }));
            }
            Twins.same("back() at once", time, () -> Twins.after(time, x -> {
                x.keep();
                x.back();
            }));
        }
    }

    /** IN and AWAY of all 13 checkpoints that there may be, kept behind each STEP of a race with a STEP for each LEG. */
    private static void timesAsKept() {
        Checks.sentence("All is as it was KEPT");
        for (int steps = 0; steps <= 12; steps++) {
            SledHouse x = onlyPlan();
            for (int leg = 0; leg < 12; leg++) {
                x.leg(10, 50);
            }
            x.team(4, 20, 0, 0, 0);
            if (steps > 0) {
                x.run(steps);
            }
            x.keep();
            x.run(500);
            Checks.due("HOME", x.about(0, 0), 2);
            x.back();
            for (int post = 0; post <= 12; post++) {
                boolean wasThere = steps > 0 && post <= steps;
                Checks.due("IN of " + post + " kept at " + steps, x.time(0, post, false), wasThere ? post : -1);
                Checks.due("AWAY of " + post + " kept at " + steps, x.time(0, post, true), post < steps ? post : -1);
                Checks.due("came to " + post + " kept at " + steps, x.came(post, 2000), wasThere ? 1 : 0);
            }
        }
    }

    private static void backAgain() {
        Checks.sentence("All is as it was KEPT; true;");
        for (Supplier<SledHouse> time : TIMES) {
            Twins.same("back() twice", time, () -> Twins.after(time, x -> {
                x.keep();
                change(x, 30);
                x.back();
                x.run(5);
                Checks.granted(x, "back() again", x.back());
            }));
        }
    }

    private static void inPlaceOfIt() {
        Checks.sentence("in place of what was kept");
        Supplier<SledHouse> later = () -> Twins.after(Houses::racing, x -> {
            x.follow(0, 2);
            x.gap(0, 30, 31);
            x.cold(3, 4, 7);
            x.run(11);
        });
        Twins.same("the later keep()", later, () -> Twins.after(Houses::laid, x -> {
            x.keep();
            x.run(9);
            x.follow(0, 2);
            x.gap(0, 30, 31);
            x.cold(3, 4, 7);
            x.run(11);
            x.keep();
            change(x, 20);
            x.back();
        }));
        SledHouse x = Houses.racing();
        x.keep();
        x.run(11);
        x.keep();
        x.run(3);
        x.back();
        Checks.due("STEPS of the later one", x.count(4), 20);
        x.back();
        Checks.due("and again", x.count(4), 20);
    }

    private static void tapeIsNotKept() {
        Checks.sentence("(but THE TAPE, texts and what was told of them;");
        SledHouse x = Houses.laid();
        Checks.tape(x, "stay");
        x.keep();
        Checks.tape(x, "go");
        x.back();
        Checks.due("bytes that came since", x.count(6), 40);
        Checks.granted(x, "plan(4)", x.plan(4), 3);
        x.back();
        Checks.due("it stays empty", x.count(6), 0);
        Houses.withFullTape(x);
        x.keep();
        x.back();
        Checks.due("it stays full", x.count(6), 400);
    }

    private static void textsAreNotKept() {
        SledHouse x = Houses.laid();
        x.keep();
        Checks.plan(x, "stay;stay");
        Checks.laws(x, "dogs 9;dogs 8");
        x.back();
        Checks.due("PLANS", x.count(2), 4);
        Checks.due("RULES", x.planned(3, 0), 2);
        Checks.due("LAWS", x.count(3), 4);
        Checks.due("their numbers", x.law(3, 1), 8);
        Checks.granted(x, "a TEAM by the new PLAN", x.team(4, 20, 0, 0, 3), 3);
        x.run(1);
        Checks.due("it stays", x.about(3, 10), 1);
    }

    private static void toldIsNotKept() {
        SledHouse x = Houses.laid();
        Checks.plan(x, "when foo");
        x.keep();
        Checks.due("keep() leaves TROUBLE", x.trouble(), 4);
        Checks.due("and the place", x.where(), 5);
        Checks.due("and the FAULT", x.fault(), 2);
        Checks.laws(x, "dogs");
        Checks.granted(x, "back()", x.back());
        Checks.due("the latest FAULT", x.fault(), 1);
        Checks.due("no place", x.where(), -1);
        Checks.plan(x, "go");
        x.back();
        Checks.due("no FAULT", x.fault(), 0);
    }

    private static void textsSince() {
        Checks.sentence("(PLANS and LAWS that came since stay.)");
        SledHouse x = Houses.over();
        x.keep();
        int result = x.result(0);
        for (int i = 0; i < 6; i++) {
            Checks.plan(x, "go");
        }
        Checks.refused(x, "the ninth", Checks.plan(x, "go"), 3);
        Checks.laws(x, "dogs 5;dogs 6;dogs 7;dogs 8;dogs 1;dogs 1;dogs 1;dogs 1;dogs 1");
        Checks.granted(x, "back()", x.back());
        Checks.due("PLANS", x.count(2), 8);
        Checks.due("LAWS", x.count(3), 10);
        Checks.refused(x, "the ninth", Checks.plan(x, "go"), 3);
        Checks.due("they count", x.result(0), result + 60 * (1 + 2 + 3 + 4));
        Checks.due("they count", x.lacks(0, 4), 4);
    }

    /** TEAMS that came since are gone, and others may come in their place. */
    private static void otherTeamsSince() {
        Checks.sentence("All is as it was KEPT");
        SledHouse x = Checks.house(Checks.legs(2000, 100), "leave", "when meals > 1 feed; go");
        x.keep();
        x.each(1);
        x.team(16, 300, 9, 0, 0);
        x.gap(0, 5, 2000);
        x.run(10);
        x.back();
        Checks.due("TEAMS", x.count(1), 0);
        Checks.due("about", x.about(0, 0), -1);
        Checks.granted(x, "team", x.team(4, 20, 3, 1, 1), 0);
        Checks.about(x, 0, 0, 0, 0, 0, 4, 0, 0, 20, 3, 0, 0, 1, 1);
        Checks.due("did", x.did(0), -1);
        Checks.due("signs", x.signs(0), 0);
        Checks.due("IN of 0", x.time(0, 0, false), -1);
        for (int dog = 0; dog < 16; dog++) {
            Checks.due("STRENGTH", x.dog(0, dog, 0), dog < 4 ? 1000 : -1);
            Checks.due("it pulls", x.dog(0, dog, 1), dog < 4 ? 0 : -1);
            Checks.due("left at", x.dog(0, dog, 2), -1);
        }
        Checks.granted(x, "its first GAP", x.gap(0, 50, 50), 1);
        x.run(13);
        Checks.due("SIGNS of 6 and 12", x.signs(0), 2);
    }
}
