/** Promises 4 to 8, 27, 28, 30: feed, plan, laws, fault, where, law, planned, trouble. */
public final class TextTest {
    public static void main(String[] args) {
        tape();
        goodPlans();
        faultyPlans();
        numbersOfPlans();
        room();
        goodLaws();
        faultyLaws();
        manyLaws();
        latestCall();
        feedAndTrouble();
        Checks.end("TextTest");
    }

    private static void tape() {
        SledHouse x = new SledHouse();
        for (int i = 1; i <= 20; i++) {
            Checks.due("feed", x.feed(0x676f2020, 0x20202020, 0x20202020, 0x20202020, 0x20200a20), 20 * i);
        }
        Checks.due("feed beyond 400", x.feed(0, 0, 0, 0, 0), -1);
        Checks.due("trouble() of no call", x.trouble(), 0);
        Checks.due("count(6)", x.count(6), 400);
        Checks.refused(x, "plan(401)", x.plan(401), 2);
        Checks.refused(x, "plan(-1)", x.plan(-1), 2);
        Checks.refused(x, "laws(401)", x.laws(401), 2);
        Checks.refused(x, "laws(-1)", x.laws(-1), 2);
        Checks.due("count(6)", x.count(6), 400);
        Checks.refused(x, "plan(400)", x.plan(400), 4);
        Checks.due("where", x.where(), 20);
        Checks.due("count(6)", x.count(6), 0);
        // the highest byte comes first, and a byte above 127 is one too
        x.feed(0x676fff20, 0, 0, 0, 0);
        Checks.refused(x, "plan(3)", x.plan(3), 4);
        Checks.due("where", x.where(), 2);
        x.feed(0x676fff20, 0, 0, 0, 0);
        Checks.granted(x, "plan(2)", x.plan(2), 0);
        x.feed(0x676fff20, 0, 0, 0, 0);
        Checks.refused(x, "plan(1)", x.plan(1), 4);
        Checks.due("where", x.where(), 0);
    }

    private static void goodPlans() {
        planned("go", 1, 0);
        planned("  \n go \n", 1, 0);
        planned("stay;feed;leave;go", 4, 0);
        planned("when run<1and rest>2and weak<3and mean>4go", 1, 4);
        planned("when cold<5 and meals>6 stay;when dogs<7 feed;when left>8 and hour<9 and post>10 leave;"
            + "when load < 9999 go", 4, 7);
        planned("go;go;go;go;go;go;go;go;go;go;go;go", 12, 0);
        planned("when run<0000 stay", 1, 1);
        StringBuilder longest = new StringBuilder();
        for (int i = 0; i < 12; i++) {
            longest.append(i == 0 ? "" : ";").append("when run>1and run>1");
            longest.append(i < 8 ? "and run>1go" : "go");
        }
        planned(longest.toString(), 12, 32);
    }

    private static void planned(String text, int rules, int tests) {
        SledHouse x = new SledHouse();
        Checks.granted(x, text, Checks.plan(x, text), 0);
        Checks.due(text + ": fault()", x.fault(), 0);
        Checks.due(text + ": where()", x.where(), -1);
        Checks.due(text + ": rules", x.planned(0, 0), rules);
        Checks.due(text + ": tests", x.planned(0, 1), tests);
    }

    private static void faultyPlans() {
        faulty("", 1, 0);
        faulty("   ", 1, 3);
        faulty("run", 1, 0);
        faulty("foo", 1, 0);
        faulty("Go", 1, 0);
        faulty("gO", 1, 0);
        faulty("go;", 1, 3);
        faulty("go; ", 1, 4);
        faulty(";go", 1, 0);
        faulty("go go", 1, 3);
        faulty("go 5", 1, 3);
        faulty("go5", 1, 2);
        faulty("go ,", 1, 3);
        faulty("go\t", 1, 2);
        faulty("go\r", 1, 2);
        faulty("stays", 1, 0);
        faulty("when", 1, 4);
        faulty("when run", 1, 8);
        faulty("when run >", 1, 10);
        faulty("when run > 3", 1, 12);
        faulty("when run > 3 ", 1, 13);
        faulty("when run > 3 and", 1, 16);
        faulty("when run > 3 ; go", 1, 13);
        faulty("when run > 3 when", 1, 13);
        faulty("when run > 3 run", 1, 13);
        faulty("when run > run go", 1, 11);
        faulty("when run 3 go", 1, 9);
        faulty("when run >> 3 go", 1, 10);
        faulty("when 3 > run go", 1, 5);
        faulty("when ; go", 1, 5);
        faulty("when run > 12345 go", 1, 11);
        faulty("when foo > 12345 go", 2, 5);
        faulty("when at > 1 go", 2, 5);
        faulty("when fine > 1 go", 2, 5);
        faulty("when runn > 1 go", 2, 5);
        faulty("when ru > 1 go", 2, 5);
        faulty("when az > 1 go", 2, 5);
        faulty("when `a > 1 go", 1, 5);
        faulty("when a{ > 1 go", 2, 5);
        faulty("when run > 1/ go", 1, 12);
        faulty("when run > 9: go", 1, 12);
        faulty("when abcdefgh > 1 go", 2, 5);
        faulty("when abcdefghi > 1 go", 1, 5);
        faulty("abcdefghi", 1, 0);
        faulty("when when > 1 go", 1, 5);
        faulty("when and > 1 go", 1, 5);
        faulty("when go > 1 go", 1, 5);
        faulty("when stay > 1 go", 1, 5);
        faulty("when feed > 1 go", 1, 5);
        faulty("when leave > 1 go", 1, 5);
        faulty("when run>1 and foo>1 go", 2, 15);
        faulty("when run>1 and and>1 go", 1, 15);
        String four = "when run>1and run>1and run>1and run>1";
        faulty(four + "and run>1go", 3, 41);
        faulty(four + "and run", 3, 41);
        faulty(four + "and foo", 2, 41);
        faulty(four + "and stay", 1, 41);
        faulty(four + "and 7", 1, 41);
        faulty(four + "and ", 1, 41);
        faulty(four + "or", 1, 37);
        String twelve = "go;go;go;go;go;go;go;go;go;go;go;go;";
        faulty(twelve + " go", 3, 37);
        faulty(twelve + "when 5", 3, 36);
        faulty(twelve + "run", 1, 36);
        faulty(twelve + "5", 1, 36);
        faulty(twelve, 1, 36);
        faulty("go;go;when foo>1 go;#", 2, 11);
        faulty("go#;when foo>1 go;", 1, 2);
    }

    private static void faulty(String text, int fault, int place) {
        SledHouse x = new SledHouse();
        Checks.refused(x, text, Checks.plan(x, text), 4);
        Checks.due(text + ": fault()", x.fault(), fault);
        Checks.due(text + ": where()", x.where(), place);
        Checks.due(text + ": the tape", x.count(6), 0);
        Checks.due(text + ": plans", x.count(2), 0);
        Checks.due(text + ": planned", x.planned(0, 0), -1);
    }

    private static void numbersOfPlans() {
        SledHouse x = new SledHouse();
        Checks.due("first", Checks.plan(x, "go"), 0);
        Checks.due("wrong", Checks.plan(x, "when run > 1"), -1);
        Checks.due("second", Checks.plan(x, "when run > 1 and run > 2 go;stay"), 1);
        Checks.due("planned(0, 0)", x.planned(0, 0), 1);
        Checks.due("planned(0, 1)", x.planned(0, 1), 0);
        Checks.due("planned(1, 0)", x.planned(1, 0), 2);
        Checks.due("planned(1, 1)", x.planned(1, 1), 2);
        Checks.due("planned(1, 2)", x.planned(1, 2), -1);
        Checks.due("planned(1, -1)", x.planned(1, -1), -1);
        Checks.due("planned(2, 0)", x.planned(2, 0), -1);
        Checks.due("planned(-1, 0)", x.planned(-1, 0), -1);
    }

    private static void room() {
        SledHouse x = new SledHouse();
        for (int i = 0; i < 8; i++) {
            Checks.granted(x, "plan " + i, Checks.plan(x, "go"), i);
        }
        Checks.refused(x, "plan 8, wrong", Checks.plan(x, "go go"), 4);
        Checks.due("fault()", x.fault(), 1);
        Checks.refused(x, "plan 8", Checks.plan(x, "stay"), 3);
        Checks.due("fault()", x.fault(), 0);
        Checks.due("where()", x.where(), -1);
        Checks.due("count(2)", x.count(2), 8);
        Checks.due("count(6)", x.count(6), 0);
        Checks.due("planned(8, 0)", x.planned(8, 0), -1);
        Checks.refused(x, "plan(1)", x.plan(1), 2);
    }

    private static void goodLaws() {
        SledHouse x = new SledHouse();
        Checks.granted(x, "laws", Checks.laws(x, " rest 9999 at 0;rest 1from 2to 3"), 2);
        Checks.granted(x, "laws", Checks.laws(x, "dogs 4\n;\nfine 5 for 6"), 4);
        int[][] want = {{0, 9999, 0, 0, -1}, {1, 1, 2, 3, -1}, {2, 4, 0, 0, -1}, {3, 5, 6, 0, -1}, {-1, -1, -1, -1}};
        for (int i = 0; i < want.length; i++) {
            for (int what = 0; what < want[i].length; what++) {
                Checks.due("law(" + i + ", " + what + ")", x.law(i, what), want[i][what]);
            }
        }
        Checks.due("law(-1, 0)", x.law(-1, 0), -1);
        Checks.due("law(0, -1)", x.law(0, -1), -1);
    }

    private static void faultyLaws() {
        faultyLaw("", 0);
        faultyLaw("rest", 4);
        faultyLaw("rest 5", 6);
        faultyLaw("rest 5 at", 9);
        faultyLaw("rest 5 at to", 10);
        faultyLaw("rest at 5", 5);
        faultyLaw("rest 5 to 7", 7);
        faultyLaw("rest 5 on 7", 7);
        faultyLaw("rest 5 from 1", 13);
        faultyLaw("rest 5 from 1 at 2", 14);
        faultyLaw("rest 5 from 1 to", 16);
        faultyLaw("rest 5 at 1 to 2", 12);
        faultyLaw("dogs", 4);
        faultyLaw("dogs 5 at 1", 7);
        faultyLaw("dogs 12345", 5);
        faultyLaw("fine 5", 6);
        faultyLaw("fine 5 at 1", 7);
        faultyLaw("fine 5 for", 10);
        faultyLaw("fine 5 for for", 11);
        faultyLaw("go", 0);
        faultyLaw("fines 5 for 1", 0);
        faultyLaw("dogs 5;", 7);
        faultyLaw("dogs 5 dogs 5", 7);
        faultyLaw("dogs 5;;", 7);
        faultyLaw("dogs < 5", 5);
        faultyLaw("dogs 5.", 6);
    }

    private static void faultyLaw(String text, int place) {
        SledHouse x = new SledHouse();
        Checks.laws(x, "fine 7 for 8");
        Checks.refused(x, text, Checks.laws(x, text), 4);
        Checks.due(text + ": fault()", x.fault(), 1);
        Checks.due(text + ": where()", x.where(), place);
        Checks.due(text + ": the tape", x.count(6), 0);
        Checks.due(text + ": laws", x.count(3), 1);
    }

    private static void manyLaws() {
        SledHouse x = new SledHouse();
        String ten = "dogs 1;dogs 1;dogs 1;dogs 1;dogs 1;dogs 1;dogs 1;dogs 1;dogs 1;dogs 1";
        Checks.refused(x, "eleven", Checks.laws(x, ten + "; rest"), 4);
        Checks.due("fault()", x.fault(), 3);
        Checks.due("where()", x.where(), 71);
        Checks.due("count(3)", x.count(3), 0);
        Checks.refused(x, "no eleven", Checks.laws(x, ten + "; go"), 4);
        Checks.due("fault()", x.fault(), 1);
        Checks.granted(x, "ten", Checks.laws(x, ten), 10);
        Checks.refused(x, "eleventh", Checks.laws(x, "  fine 1 for 1"), 4);
        Checks.due("fault()", x.fault(), 3);
        Checks.due("where()", x.where(), 2);
        Checks.due("count(3)", x.count(3), 10);
    }

    private static void latestCall() {
        SledHouse x = new SledHouse();
        Checks.plan(x, "when foo");
        x.count(0);
        x.about(9, 9);
        x.law(9, 9);
        x.keep();
        Checks.due("trouble()", x.trouble(), 4);
        Checks.due("where()", x.where(), 5);
        Checks.due("fault()", x.fault(), 2);
        x.leg(0, 0);
        Checks.due("trouble()", x.trouble(), 2);
        Checks.due("where()", x.where(), -1);
        Checks.due("fault()", x.fault(), 2);
        x.laws(5);
        Checks.due("fault()", x.fault(), 2);
        x.back();
        Checks.due("trouble()", x.trouble(), 0);
        Checks.due("fault()", x.fault(), 2);
        Checks.laws(x, "dogs 5");
        Checks.due("fault()", x.fault(), 0);
        Checks.laws(x, "dogs");
        Checks.due("fault()", x.fault(), 1);
    }

    /** feed() is no call that may be refused: what was told of the latest one stays, with bytes or with NONE. */
    private static void feedAndTrouble() {
        SledHouse x = new SledHouse();
        x.leg(0, 0);
        feedKeeps(x, 2, 0, -1);
        x = new SledHouse();
        x.leg(0, 0);
        x.leg(10, 100);
        feedKeeps(x, 0, 0, -1);
        x = new SledHouse();
        x.follow(0, 0);
        feedKeeps(x, 1, 0, -1);
        x = new SledHouse();
        x.run(1);
        feedKeeps(x, 5, 0, -1);
        x = new SledHouse();
        Checks.plan(x, "when foo");
        feedKeeps(x, 4, 2, 5);
        x = new SledHouse();
        Checks.laws(x, "dogs");
        feedKeeps(x, 4, 1, 4);
        x = new SledHouse();
        for (int i = 0; i < 9; i++) {
            Checks.plan(x, "go");
        }
        feedKeeps(x, 3, 0, -1);
    }

    private static void feedKeeps(SledHouse x, int trouble, int fault, int place) {
        for (int i = 1; i <= 21; i++) {
            Checks.due("feed " + i, x.feed(0x676f2020, 0, 0, 0, 0), i <= 20 ? 20 * i : -1);
            Checks.due("trouble() behind feed " + i, x.trouble(), trouble);
            Checks.due("fault() behind feed " + i, x.fault(), fault);
            Checks.due("where() behind feed " + i, x.where(), place);
        }
    }
}
