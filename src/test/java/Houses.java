/** Objects at different times of a race, made anew whenever they are asked for; few calls are used up by it. */
final class Houses {
    private static final String RESTING = "when post > 0 and post < 99 and rest < 3 stay;"
        + "when meals > 0 and weak < 950 feed; go";
    private static final String LEAVING = "when post < 1 and dogs > 3 leave; when run > 5 stay; go";

    private Houses() {
    }

    /** No STEP was done: 3 LEGS, 3 PLANS, 2 LAWS, and 3 TEAMS of which the first has a GAP. */
    static SledHouse laid() {
        SledHouse x = Checks.house(Checks.legs(60, 100, 40, 120, 80, 90), "go", RESTING, LEAVING);
        Checks.laws(x, "rest 3 at 1; dogs 5");
        x.cold(1, 2, 3);
        x.each(2);
        x.team(5, 40, 2, 0, 1);
        x.team(8, 120, 3, 4, 2);
        x.team(4, 20, 0, 30, 0);
        x.gap(0, 4, 5);
        return x;
    }

    /** The same behind 9 STEPS: two TEAMS are ON, one WAITS. */
    static SledHouse racing() {
        SledHouse x = laid();
        Checks.due("run(9)", x.run(9), 9);
        return x;
    }

    /** TEAM 0 is HOME, TEAM 1 is OUT. */
    static SledHouse over() {
        SledHouse x = Checks.house(Checks.legs(300, 200), "go", "stay");
        Checks.laws(x, "rest 3 at 0");
        x.team(4, 20, 0, 0, 0);
        x.team(4, 300, 0, 0, 0);
        x.run(500);
        Checks.due("HOME", x.about(0, 0), 2);
        Checks.due("OUT", x.about(1, 0), 3);
        return x;
    }

    /** All 2,000 STEPS were done, and the one TEAM is still ON. */
    static SledHouse late() {
        SledHouse x = Checks.house(Checks.legs(100, 100), "stay");
        x.team(4, 20, 0, 0, 0);
        for (int i = 0; i < 4; i++) {
            Checks.due("run(500)", x.run(500), 500);
        }
        return x;
    }

    /** 12 LEGS, 8 PLANS, 10 LAWS, 6 TEAMS with 4 GAPS each; no STEP was done. */
    static SledHouse full() {
        SledHouse x = new SledHouse();
        for (int i = 0; i < 12; i++) {
            x.leg(20 + i, 100);
        }
        for (int i = 0; i < 8; i++) {
            Checks.plan(x, i == 0 ? RESTING : i == 1 ? LEAVING : "go");
        }
        Checks.laws(x, "rest 3 at 1;dogs 5;rest 2 at 2;dogs 6;dogs 1;dogs 1;dogs 1;dogs 1;dogs 1;dogs 7");
        for (int i = 0; i < 6; i++) {
            x.team(4 + i, 20 + 10 * i, i, 2 * i, i);
            for (int gap = 0; gap < 4; gap++) {
                x.gap(i, 6 * gap, 6 * gap + i);
            }
        }
        for (int what = 0; what < 4; what++) {
            Checks.due("full, count(" + what + ")", x.count(what), new int[] {12, 6, 8, 10}[what]);
        }
        return x;
    }

    /** Lays as many bytes on THE TAPE as it has room for: 400 of them in all, each 20 a text "go" and blanks. */
    static SledHouse withFullTape(SledHouse x) {
        while (x.feed(0x676f2020, 0x20202020, 0x20202020, 0x20202020, 0x20202020) != SledHouse.NONE) {
            continue;
        }
        Checks.due("bytes", x.count(6), 400);
        return x;
    }
}
