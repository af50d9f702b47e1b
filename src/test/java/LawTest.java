/** Promises 18 to 21: result, lacks, place, came. */
public final class LawTest {
    public static void main(String[] args) {
        rests();
        dogsAndFines();
        places();
        arrivals();
        Checks.end("LawTest");
    }

    /** Rests 4 STEPS at 0, none at 1, 2 at 2; the last is 3. */
    private static SledHouse rested() {
        SledHouse x = Checks.house(Checks.legs(20, 100, 20, 100, 20, 100), "when post < 1 and rest < 4 stay;"
            + "when post > 1 and post < 3 and rest < 2 stay; go");
        x.team(4, 20, 0, 3, 0);
        x.run(500);
        Checks.due("home", x.about(0, 0), 2);
        Checks.due("in of 3", x.time(0, 3, false), 12);
        return x;
    }

    private static void law(SledHouse x, String text, int lacks, int result) {
        x.back();
        int i = x.count(3);
        Checks.due(text, Checks.laws(x, text), i + 1);
        Checks.due(text + ": lacks", x.lacks(0, i), lacks);
        Checks.due(text + ": result", x.result(0), result);
    }

    private static void rests() {
        String[] texts = {"rest 4 at 0", "rest 5 at 0", "rest 1 at 1", "rest 7 at 2", "rest 9999 at 3",
            "rest 9999 at 4", "rest 9999 at 9999", "rest 4 from 0 to 2", "rest 6 from 0 to 2", "rest 6 from 1 to 2",
            "rest 6 from 1 to 1", "rest 6 from 1 to 3", "rest 6 from 2 to 1", "rest 6 from 1 to 4",
            "rest 0 from 0 to 2", "rest 6 from 5 to 7"};
        int[] lacks = {0, 1, 1, 5, 0, 0, 0, 0, 2, 4, 6, 0, 0, 0, 0, 0};
        for (int i = 0; i < texts.length; i++) {
            SledHouse x = rested();
            x.keep();
            Checks.due("result without laws", x.result(0), 9);
            law(x, texts[i], lacks[i], 9 + 2 * lacks[i]);
            Checks.due("lacks(0, 1)", x.lacks(0, 1), -1);
            Checks.due("lacks(0, -1)", x.lacks(0, -1), -1);
        }
    }

    private static void dogsAndFines() {
        SledHouse x = rested();
        x.keep();
        law(x, "dogs 4", 0, 9);
        law(x, "dogs 5", 1, 69);
        law(x, "dogs 7", 3, 249);
        law(x, "fine 3 for 70", 0, 289);
        law(x, "rest 10 at 0", 6, 307);
        law(x, "rest 3 at 1", 3, 316);
        law(x, "fine 0 for 1", 0, 13);
        law(x, "fine 9999 for 0", 0, 9 + 9 * 9999);
        SledHouse y = Checks.house(Checks.legs(2000, 100), "go");
        Checks.laws(y, "dogs 5");
        y.team(4, 20, 0, 0, 0);
        y.run(1);
        Checks.due("not HOME: lacks", y.lacks(0, 0), -1);
        Checks.due("not HOME: result", y.result(0), -1);
    }

    private static void places() {
        SledHouse x = Checks.house(Checks.legs(40, 200, 60, 200),
            "when post > 0 and post < 2 and rest < 3 stay; go", "go", "stay");
        x.team(4, 20, 0, 6, 0);
        x.team(4, 20, 0, 3, 1);
        x.team(4, 20, 0, 0, 1);
        x.team(4, 20, 0, 90, 1);
        x.team(4, 20, 0, 50, 1);
        x.team(4, 20, 0, 0, 2);
        order(x, 0, 1, 2, 3, 4, 5);
        x.run(1);
        // 2 is ON with some way, 5 ON with none; the others wait
        order(x, 2, 5, 0, 1, 3, 4);
        x.run(6);
        order(x, 2, 1, 0, 5, 3, 4);
        x.run(33);
        Checks.due("2 is home", x.about(2, 0), 2);
        Checks.due("0 is home", x.about(0, 0), 2);
        Checks.due("as fast from another start", x.result(1), x.result(2));
        order(x, 1, 2, 0, 5, 3, 4);
        // a law that makes the one that rested first, though it came last
        Checks.laws(x, "rest 3 at 1");
        order(x, 0, 1, 2, 5, 3, 4);
        Checks.due("place(-1)", x.place(-1), -1);
        outIsLast();
    }

    private static void outIsLast() {
        SledHouse x = Checks.house(Checks.legs(2000, 200), "go");
        x.team(4, 300, 0, 0, 0);
        x.team(4, 20, 0, 10, 0);
        x.team(4, 20, 0, 60, 0);
        x.run(48);
        Checks.due("out", x.about(0, 0), 3);
        order(x, 1, 2, 0);
        x.run(15);
        order(x, 1, 2, 0);
        x.run(500);
        order(x, 0, 1, 2);
    }

    private static void order(SledHouse x, int... teams) {
        for (int i = 0; i < teams.length; i++) {
            Checks.due("place(" + i + ")", x.place(i), teams[i]);
        }
        Checks.due("place(" + teams.length + ")", x.place(teams.length), -1);
    }

    private static void arrivals() {
        SledHouse x = Checks.house(Checks.legs(20, 100, 20, 100), "go");
        x.team(4, 20, 0, 3, 0);
        x.team(4, 20, 0, 0, 0);
        Checks.due("all wait", x.came(0, 100), 0);
        x.run(1);
        Checks.due("one waits", x.came(0, 100), 1);
        x.run(500);
        Checks.due("came(0, -1)", x.came(0, -1), 0);
        Checks.due("came(0, 0)", x.came(0, 0), 1);
        Checks.due("came(0, 2)", x.came(0, 2), 1);
        Checks.due("came(0, 3)", x.came(0, 3), 2);
        Checks.due("came(1, 0)", x.came(1, 0), 0);
        Checks.due("came(1, 1)", x.came(1, 1), 1);
        Checks.due("came(2, 4)", x.came(2, 4), 1);
        Checks.due("came(2, 5)", x.came(2, 5), 2);
        Checks.due("came(2, MAX)", x.came(2, Integer.MAX_VALUE), 2);
        Checks.due("came(2, MIN)", x.came(2, Integer.MIN_VALUE), 0);
        Checks.due("came(3, 9)", x.came(3, 9), -1);
        Checks.due("came(-1, 9)", x.came(-1, 9), -1);
    }
}
