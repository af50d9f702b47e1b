import java.util.Arrays;
import java.util.List;
import java.util.function.Supplier;

/** The edges of terms III and V (texts) and of promises 4 to 8, 27, 28: feed, plan, laws, fault, where, law, planned. */
public final class EdgeTextTest {
    private static final List<String> NAMES = Arrays.asList("run", "rest", "weak", "mean", "cold", "meals", "dogs",
        "left", "hour", "post", "load");
    private static final List<String> ACTS = Arrays.asList("go", "stay", "feed", "leave");
    private static final String FOUR_TESTS = "when run>1and run>1and run>1and run>1";
    private static final String TWELVE_RULES = "go;go;go;go;go;go;go;go;go;go;go;go";
    private static final String TEN_LAWS = "dogs 1;dogs 1;dogs 1;dogs 1;dogs 1;dogs 1;dogs 1;dogs 1;dogs 1;dogs 1";

    public static void main(String[] args) {
        twentyBytes();
        highestFirst();
        fullTape();
        feedIsNotRefused();
        howManyBytesOfPlan();
        howManyBytesOfLaws();
        emptyTape();
        restOfTheTape();
        plansFull();
        planFaulty();
        planOrder();
        lawsFaulty();
        lawsFull();
        everyByte();
        blanks();
        words();
        numbers();
        endOfText();
        grammarOfPlans();
        grammarOfLaws();
        namesAndOthers();
        manyRules();
        manyTests();
        firstFromTheLeft();
        faults();
        places();
        lawParts();
        plannedParts();
        Checks.end("EdgeTextTest");
    }

    private static void twentyBytes() {
        Checks.sentence("Twenty bytes come behind THE TAPE");
        SledHouse x = new SledHouse();
        for (int i = 1; i <= 20; i++) {
            Checks.due("feed " + i, x.feed(0, 0, 0, 0, 0), 20 * i);
            Checks.due("count(6)", x.count(6), 20 * i);
        }
    }

    private static void highestFirst() {
        Checks.sentence("of each number the highest first");
        SledHouse x = new SledHouse();
        // "when", "\nrun", "\n< 9", "999\n", "stay"
        x.feed(0x7768656e, 0x0a72756e, 0x0a3c2039, 0x3939390a, 0x73746179);
        Checks.granted(x, "plan(20)", x.plan(20), 0);
        // bytes from 128 on, in each place of each number: none of them begins a TOKEN
        for (int place = 0; place < 20; place++) {
            int[] numbers = {0x20202020, 0x20202020, 0x20202020, 0x20202020, 0x20202020};
            numbers[place / 4] |= 0x80 << 24 - 8 * (place % 4);
            x.feed(numbers[0], numbers[1], numbers[2], numbers[3], numbers[4]);
            Checks.refused(x, "a high byte at " + place, x.plan(20), 4);
            Checks.due("where()", x.where(), place);
        }
        x.feed(-1, Integer.MIN_VALUE, Integer.MAX_VALUE, 0, 1);
        Checks.refused(x, "plan(20)", x.plan(20), 4);
        Checks.due("where()", x.where(), 0);
    }

    private static void fullTape() {
        Checks.sentence("THE TAPE has 400 bytes");
        // 10 RULES of 4 TESTS, 399 bytes and a blank: as many TESTS as a text has room for
        String text = (FOUR_TESTS + "go;").repeat(9) + FOUR_TESTS + "go ";
        Checks.due("bytes", text.length(), 400);
        SledHouse x = new SledHouse();
        Checks.tape(x, text);
        Checks.due("count(6)", x.count(6), 400);
        Checks.sentence("NONE, and none comes, if there would be more than 400.");
        for (int i = 0; i < 3; i++) {
            Checks.due("feed beyond 400", x.feed(0x67676767, 0, 0, 0, 0), -1);
            Checks.due("count(6)", x.count(6), 400);
        }
        Checks.granted(x, "plan(400), as it was laid", x.plan(400), 0);
        Checks.due("RULES", x.planned(0, 0), 10);
        Checks.due("TESTS", x.planned(0, 1), 40);
        Checks.due("empty, so there is room", x.feed(0, 0, 0, 0, 0), 20);
        Twins.same("feed() of a full tape", EdgeTextTest::racingWithFullTape,
            () -> Twins.after(EdgeTextTest::racingWithFullTape, y -> y.feed(1, 2, 3, 4, 5)));
    }

    private static SledHouse racingWithFullTape() {
        return Houses.withFullTape(Houses.racing());
    }

    private static void feedIsNotRefused() {
        Checks.sentence("TROUBLE of the latest call that may be refused");
        SledHouse x = new SledHouse();
        x.leg(0, 0);
        Houses.withFullTape(x);
        Checks.due("feed beyond 400", x.feed(0, 0, 0, 0, 0), -1);
        Checks.due("trouble()", x.trouble(), 2);
        x.leg(10, 50);
        Checks.due("feed beyond 400", x.feed(0, 0, 0, 0, 0), -1);
        Checks.due("trouble()", x.trouble(), 0);
    }

    private static void howManyBytesOfPlan() {
        Checks.sentence("NONE: 2 (THE TAPE stays); 4; 3.");
        for (int n : new int[] {-1, 21, 400, 401, Integer.MIN_VALUE, Integer.MAX_VALUE}) {
            Twins.refused(EdgeTextTest::twentyOnTape, "plan(" + n + ") of 20", x -> x.plan(n), 2);
        }
        Twins.refused(EdgeTextTest::racingWithFullTape, "plan(401) of 400", x -> x.plan(401), 2);
        Twins.refused(SledHouse::new, "plan(1) of 0", x -> x.plan(1), 2);
        SledHouse x = twentyOnTape();
        x.plan(21);
        Checks.due("THE TAPE stays", x.count(6), 20);
        Checks.granted(x, "plan(20) of 20", x.plan(20), 3);
        Checks.due("it is empty then", x.count(6), 0);
        x = Houses.withFullTape(new SledHouse());
        Checks.refused(x, "plan(400) of 400", x.plan(400), 4);
        Checks.due("it is empty then", x.count(6), 0);
        x = twentyOnTape();
        Checks.granted(x, "plan(2) of 20", x.plan(2), 3);
        Checks.due("all of it is gone", x.count(6), 0);
    }

    private static SledHouse twentyOnTape() {
        SledHouse x = Houses.laid();
        Checks.tape(x, "go");
        return x;
    }

    private static void howManyBytesOfLaws() {
        Checks.sentence("NONE: 2 (THE TAPE stays); 4 (none of them comes).");
        for (int n : new int[] {-1, 21, 400, 401, Integer.MIN_VALUE, Integer.MAX_VALUE}) {
            Twins.refused(EdgeTextTest::lawOnTape, "laws(" + n + ") of 20", x -> x.laws(n), 2);
        }
        Twins.refused(EdgeTextTest::racingWithFullTape, "laws(401) of 400", x -> x.laws(401), 2);
        Twins.refused(SledHouse::new, "laws(1) of 0", x -> x.laws(1), 2);
        SledHouse x = lawOnTape();
        x.laws(21);
        Checks.due("THE TAPE stays", x.count(6), 20);
        Checks.granted(x, "laws(20) of 20", x.laws(20), 3);
        Checks.due("it is empty then", x.count(6), 0);
        x = lawOnTape();
        Checks.granted(x, "laws(6) of 20", x.laws(6), 3);
        Checks.due("all of it is gone", x.count(6), 0);
        Checks.due("the first digit alone", x.law(2, 1), 1);
        x = Houses.withFullTape(new SledHouse());
        Checks.refused(x, "laws(400) of 400", x.laws(400), 4);
        Checks.due("it is empty then", x.count(6), 0);
    }

    private static SledHouse lawOnTape() {
        SledHouse x = Houses.laid();
        Checks.tape(x, "dogs 12");
        return x;
    }

    private static void emptyTape() {
        Checks.sentence("The first n bytes of THE TAPE (it is empty then) are a PLAN: its number.");
        SledHouse x = new SledHouse();
        Checks.refused(x, "plan(0) of 0", x.plan(0), 4);
        fault(x, 1, 0);
        Checks.refused(x, "laws(0) of 0", x.laws(0), 4);
        fault(x, 1, 0);
        Checks.tape(x, "go");
        Checks.refused(x, "plan(0) of 20", x.plan(0), 4);
        fault(x, 1, 0);
        Checks.due("it is empty then", x.count(6), 0);
        Checks.tape(x, "dogs 1");
        Checks.refused(x, "laws(0) of 20", x.laws(0), 4);
        fault(x, 1, 0);
        Checks.due("it is empty then", x.count(6), 0);
    }

    private static void fault(SledHouse x, int kind, int place) {
        Checks.due("fault()", x.fault(), kind);
        Checks.due("where()", x.where(), place);
    }

    /** Bytes behind the first n, and of texts that came ahead, don't count. */
    private static void restOfTheTape() {
        Checks.sentence("The first n bytes of THE TAPE (it is empty then) are LAWS behind the others: how many there are.");
        SledHouse x = new SledHouse();
        Checks.tape(x, "stay;go;leave;feed##");
        Checks.granted(x, "plan(4)", x.plan(4), 0);
        Checks.due("RULES", x.planned(0, 0), 1);
        Checks.tape(x, "go;go;go");
        Checks.refused(x, "plan(3)", x.plan(3), 4);
        fault(x, 1, 3);
        Checks.tape(x, "go");
        Checks.granted(x, "plan(2)", x.plan(2), 1);
        Checks.due("RULES", x.planned(1, 0), 1);
        Checks.tape(x, "dogs 1234;fine 1 for");
        Checks.granted(x, "laws(8)", x.laws(8), 1);
        Checks.due("cut at n", x.law(0, 1), 123);
        Checks.tape(x, "rest 1 at 2");
        Checks.granted(x, "laws(11)", x.laws(11), 2);
        Checks.due("the first stays", x.law(0, 1), 123);
    }

    private static void plansFull() {
        Checks.sentence("PLANS 8 of 12 RULES");
        SledHouse x = new SledHouse();
        for (int i = 0; i < 8; i++) {
            Checks.granted(x, "plan " + i, Checks.plan(x, i == 7 ? "stay;go" : "go"), i);
            Checks.due("count(2)", x.count(2), i + 1);
        }
        for (int i = 0; i < 2; i++) {
            Checks.refused(x, "the ninth", Checks.plan(x, "when run>1 go;go;go"), 3);
            fault(x, 0, -1);
            Checks.due("THE TAPE is empty", x.count(6), 0);
            Checks.due("no ninth", x.planned(8, 0), -1);
            Checks.due("the eighth stays", x.planned(7, 0), 2);
        }
        Twins.same("the ninth", Houses::full, () -> Twins.after(Houses::full, y -> Checks.plan(y, "stay")));
    }

    private static void planFaulty() {
        Checks.sentence("4 a FAULT; 5 the race has begun, or is over.");
        for (Supplier<SledHouse> maker : List.<Supplier<SledHouse>>of(Houses::laid, Houses::racing, Houses::over)) {
            SledHouse x = maker.get();
            Checks.refused(x, "a FAULT", Checks.plan(x, "go;go;go 5"), 4);
            fault(x, 1, 9);
            Twins.same("plan() with a FAULT", maker, () -> Twins.after(maker, y -> Checks.plan(y, "go;go;go 5")));
            x = maker.get();
            int many = x.count(2);
            Checks.granted(x, "a PLAN at any time", Checks.plan(x, "go"), many);
            // what a faulty text began with isn't seen in the PLAN that comes then
            Checks.plan(x, "stay; when run > 1 and rest > 2 and foo");
            Checks.granted(x, "plan", Checks.plan(x, "when load > 9 feed"), many + 1);
            Checks.due("RULES", x.planned(many + 1, 0), 1);
            Checks.due("TESTS", x.planned(many + 1, 1), 1);
        }
    }

    private static void planOrder() {
        Checks.sentence("NONE: 2 (THE TAPE stays); 4; 3.");
        SledHouse x = Houses.full();
        Checks.refused(x, "4 ahead of 3", Checks.plan(x, "go go"), 4);
        fault(x, 1, 3);
        Checks.tape(x, "go go");
        Checks.refused(x, "2 ahead of 4 and 3", x.plan(21), 2);
        Checks.due("THE TAPE stays", x.count(6), 20);
        fault(x, 1, -1);
    }

    private static void lawsFaulty() {
        Checks.sentence("4 (none of them comes)");
        String text = "rest 9 at 0; dogs 9; fine 9 for 9; rest 1 at";
        for (Supplier<SledHouse> maker : List.<Supplier<SledHouse>>of(Houses::laid, Houses::racing, Houses::over)) {
            SledHouse x = maker.get();
            Checks.refused(x, "a FAULT", Checks.laws(x, text), 4);
            fault(x, 1, text.length());
            Checks.due("THE TAPE is empty", x.count(6), 0);
            Twins.same("laws() with a FAULT", maker, () -> Twins.after(maker, y -> Checks.laws(y, text)));
            x = maker.get();
            int many = x.count(3);
            Checks.granted(x, "LAWS at any time", Checks.laws(x, "dogs 1"), many + 1);
            // what a faulty text began with isn't seen in the LAWS that come then
            x = maker.get();
            Checks.laws(x, "rest 7 from 8 to 9; rest 7 from 8 to 9; go");
            Checks.granted(x, "laws", Checks.laws(x, "rest 5 at 6; dogs 4"), many + 2);
            int[] want = {0, 5, 6, 0, 2, 4, 0, 0};
            for (int i = 0; i < 8; i++) {
                Checks.due("law", x.law(many + i / 4, i % 4), want[i]);
            }
        }
    }

    private static void lawsFull() {
        Checks.sentence("(at its first TOKEN; in V an eleventh LAW)");
        faultOf(false, TEN_LAWS, 0, -1);
        faultOf(false, TEN_LAWS + ";dogs 1", 3, 70);
        faultOf(false, TEN_LAWS + ";\n rest", 3, 72);
        faultOf(false, TEN_LAWS + ";fine#", 3, 70);
        faultOf(false, TEN_LAWS + ";go", 1, 70);
        faultOf(false, TEN_LAWS + ";7", 1, 70);
        faultOf(false, TEN_LAWS + ";", 1, 70);
        faultOf(false, TEN_LAWS + " dogs", 1, 70);
        Checks.sentence("LAWS 10.");
        SledHouse x = new SledHouse();
        Checks.granted(x, "nine", Checks.laws(x, TEN_LAWS.substring(7)), 9);
        Checks.refused(x, "two more", Checks.laws(x, "dogs 2;dogs 2"), 4);
        fault(x, 3, 7);
        Checks.due("none of them comes", x.count(3), 9);
        Checks.granted(x, "one more", Checks.laws(x, "dogs 2"), 10);
        Checks.due("the tenth", x.law(9, 1), 2);
        Checks.refused(x, "an eleventh", Checks.laws(x, "dogs 2"), 4);
        fault(x, 3, 0);
        Checks.refused(x, "no LAW", x.laws(0), 4);
        fault(x, 1, 0);
        Checks.due("LAWS", x.count(3), 10);
        Checks.due("no eleventh", x.law(10, 0), -1);
        Twins.same("an eleventh LAW", Houses::full, () -> Twins.after(Houses::full, y -> Checks.laws(y, "dogs 0")));
    }

    /** The FAULT of a text (0: none) and its place on a new object, which has no PLAN or LAW more by a faulty one. */
    private static void faultOf(boolean isPlan, String text, int kind, int place) {
        SledHouse x = new SledHouse();
        String name = text.replace("\n", "\\n") + ": ";
        int answer = isPlan ? Checks.plan(x, text) : Checks.laws(x, text);
        Checks.due(name + "refused", answer == -1, kind != 0);
        Checks.due(name + "trouble()", x.trouble(), kind == 0 ? 0 : 4);
        Checks.due(name + "fault()", x.fault(), kind);
        Checks.due(name + "where()", x.where(), place);
        Checks.due(name + "count(6)", x.count(6), 0);
        if (kind != 0) {
            Checks.due(name + "count", x.count(isPlan ? 2 : 3), 0);
        }
    }

    private static void everyByte() {
        Checks.sentence("1 FORM: the first byte that begins no TOKEN, or TOKEN with which no text goes on");
        for (int sign = 0; sign < 256; sign++) {
            boolean letter = sign >= 'a' && sign <= 'z';
            boolean blank = sign == 32 || sign == 10;
            String text = String.valueOf((char) sign);
            // where a NAME is to be: a letter is a WORD that is none
            faultOf(true, "when " + text, letter ? 2 : 1, blank ? 6 : 5);
            faultOf(true, text, 1, blank ? 1 : 0);
            faultOf(false, text, 1, blank ? 1 : 0);
            faultOf(false, "dogs 1" + text, blank || sign >= '0' && sign <= '9' ? 0 : 1,
                blank || sign >= '0' && sign <= '9' ? -1 : sign == ';' ? 7 : 6);
            faultOf(true, "stay" + text, blank ? 0 : 1, blank ? -1 : letter ? 0 : sign == ';' ? 5 : 4);
        }
    }

    private static void blanks() {
        Checks.sentence("blanks, 32, and 10s part TOKENS and mean nothing else");
        faultOf(true, "go\n;\n stay", 0, -1);
        faultOf(true, "\n\n  go\n\n  ", 0, -1);
        faultOf(true, "g o", 1, 0);
        faultOf(true, "g\no", 1, 0);
        faultOf(true, "go\nstay", 1, 3);
        faultOf(true, "when run>1 2go", 1, 11);
        faultOf(true, "when run>1\n2go", 1, 11);
        faultOf(true, "whenrun>1go", 1, 0);
        faultOf(true, "when run>1andrun>2go", 1, 10);
        faultOf(true, "when run>1and run>2go;when\nrest\n<\n3\nstay", 0, -1);
        faultOf(false, "rest1at2;dogs3;fine4for5;rest6from7to8", 0, -1);
        faultOf(false, "rest\n1\nat\n2", 0, -1);
        faultOf(false, "rest 1 2 at 3", 1, 7);
        faultOf(false, "re st 1 at 3", 1, 0);
    }

    private static void words() {
        Checks.sentence("WORDS of small letters that stand together, at most 8");
        faultOf(true, "when zzzzzzzz > 1 go", 2, 5);
        faultOf(true, "when zzzzzzzzz > 1 go", 1, 5);
        faultOf(true, "when z > 1 go", 2, 5);
        faultOf(true, "when a > 1 go", 2, 5);
        faultOf(true, "when runrunru > 1 go", 2, 5);
        faultOf(true, "when runrunrun > 1 go", 1, 5);
        faultOf(true, "when Run > 1 go", 1, 5);
        faultOf(true, "when rUn > 1 go", 2, 5);
        faultOf(true, "when run > 1 GO", 1, 13);
        faultOf(true, "stayy", 1, 0);
        faultOf(true, "sta", 1, 0);
        faultOf(true, "leavessss", 1, 0);
        faultOf(false, "doggs 1", 1, 0);
        faultOf(false, "dog 1", 1, 0);
        faultOf(false, "rest 1 atat 2", 1, 7);
        faultOf(false, "rest 1 a 2", 1, 7);
        faultOf(false, "rest 1 aaaaaaaaa 2", 1, 7);
    }

    private static void numbers() {
        Checks.sentence("NUMBERS of 1 to 4 digits");
        faultOf(true, "when run > 0 go", 0, -1);
        faultOf(true, "when run > 9999 go", 0, -1);
        faultOf(true, "when run > 00000 go", 1, 11);
        faultOf(true, "when run > 10000 go", 1, 11);
        faultOf(true, "when run > go", 1, 11);
        faultOf(true, "when run > -1 go", 1, 11);
        faultOf(true, "when run > 1.5 go", 1, 12);
        faultOf(false, "dogs 9999", 0, -1);
        faultOf(false, "dogs 10000", 1, 5);
        faultOf(false, "fine 0 for 00000", 1, 11);
        faultOf(false, "rest 12345678901234567890 at 1", 1, 5);
        SledHouse x = new SledHouse();
        Checks.granted(x, "laws", Checks.laws(x, "rest 0 from 0009 to 9999;fine 0010 for 90"), 2);
        int[] want = {1, 0, 9, 9999, 3, 10, 90, 0};
        for (int i = 0; i < want.length; i++) {
            Checks.due("law(" + i / 4 + ", " + i % 4 + ")", x.law(i / 4, i % 4), want[i]);
        }
    }

    private static void endOfText() {
        Checks.sentence("(the end: its place)");
        faultOf(true, "", 1, 0);
        faultOf(true, " ", 1, 1);
        faultOf(true, "go;", 1, 3);
        faultOf(true, "when", 1, 4);
        faultOf(true, "when \n", 1, 6);
        faultOf(true, "when run", 1, 8);
        faultOf(true, "when run<", 1, 9);
        faultOf(true, "when run<3", 1, 10);
        faultOf(true, "when run<3and", 1, 13);
        faultOf(false, "", 1, 0);
        faultOf(false, "\n", 1, 1);
        faultOf(false, "rest", 1, 4);
        faultOf(false, "rest 1", 1, 6);
        faultOf(false, "rest 1 at ", 1, 10);
        faultOf(false, "rest 1 from", 1, 11);
        faultOf(false, "rest 1 from 2", 1, 13);
        faultOf(false, "rest 1 from 2 to", 1, 16);
        faultOf(false, "dogs", 1, 4);
        faultOf(false, "fine", 1, 4);
        faultOf(false, "fine 1", 1, 6);
        faultOf(false, "fine 1 for", 1, 10);
        faultOf(false, "dogs 1;", 1, 7);
        // the end of the longest text
        faultOf(true, " ".repeat(400), 1, 400);
        faultOf(false, " ".repeat(400), 1, 400);
        faultOf(true, " ".repeat(398) + "go", 0, -1);
        faultOf(true, " ".repeat(399) + "g", 1, 399);
    }

    /** In each place of a RULE each kind of TOKEN that may not stand there. */
    private static void grammarOfPlans() {
        Checks.sentence("PLAN: RULE {; RULE}. RULE: [when TEST {and TEST}] ACT. TEST: NAME < NUMBER or NAME > NUMBER.");
        refuseAll("", "and run < > ; 5 foo at");
        refuseAll("go;", "and run < > ; 5 foo at");
        refuseAll("go ", "when and run go stay < > 5 foo");
        refuseAll("when ", "< > ; 5");
        refuseAll("when run ", "when and run rest go 5 ; foo");
        refuseAll("when run < ", "< > ; run go and foo");
        refuseAll("when run > 5 ", "when run < > ; 5 foo");
        refuseAll("when run > 5 and ", "< > ; 5");
        refuseAll("when run > 5 and rest < 7 ", "when run < > ; 5 foo");
        refuseAll("when run > 5 and rest < 7 leave ", "when and run < > 5 foo leave");
        for (String act : ACTS) {
            faultOf(true, act, 0, -1);
            faultOf(true, "when run < 5 " + act + ";" + act, 0, -1);
        }
        for (String name : NAMES) {
            faultOf(true, "when " + name + " < 5 and " + name + " > 5 go", 0, -1);
        }
    }

    private static void refuseAll(String begun, String tokens) {
        for (String token : tokens.split(" ")) {
            faultOf(true, begun + token + " go", 1, begun.length());
        }
    }

    private static void grammarOfLaws() {
        Checks.sentence("V. LAWS (texts, likewise): LAW {; LAW}.");
        String[] begun = {"", "rest ", "rest 1 ", "rest 1 at ", "rest 1 at 2 ", "rest 1 from ", "rest 1 from 2 ",
            "rest 1 from 2 to ", "rest 1 from 2 to 3 ", "dogs ", "dogs 1 ", "fine ", "fine 1 ", "fine 1 for ",
            "fine 1 for 2 ", "dogs 1; "};
        String[] next = {"rest dogs fine", "7", "at from", "7", ";", "7", "to", "7", ";", "7", ";", "7", "for", "7", ";",
            "rest dogs fine"};
        String[] tokens = {"rest", "dogs", "fine", "at", "from", "to", "for", "7", ";", "<", ">", "go", "run", "foo"};
        for (int i = 0; i < begun.length; i++) {
            for (String token : tokens) {
                if (!Arrays.asList(next[i].split(" ")).contains(token)) {
                    faultOf(false, begun[i] + token + " 1 ", 1, begun[i].length());
                }
            }
        }
        faultOf(false, "rest 1 at 2;rest 1 from 2 to 3;dogs 4;fine 5 for 6", 0, -1);
    }

    private static void namesAndOthers() {
        Checks.sentence("2 a WORD that is no NAME where one is to be (when, and, acts: there they are 1); at it.");
        for (String word : new String[] {"foo", "at", "from", "to", "for", "fine", "runs", "ru", "u", "lefts", "go1a"}) {
            boolean cut = word.equals("go1a");
            faultOf(true, "when " + word + " > 1 go", cut ? 1 : 2, 5);
            faultOf(true, "when run > 1 and " + word + " > 1 go", cut ? 1 : 2, 17);
        }
        for (String word : new String[] {"when", "and", "go", "stay", "feed", "leave"}) {
            faultOf(true, "when " + word + " > 1 go", 1, 5);
            faultOf(true, "when run > 1 and " + word + " > 1 go", 1, 17);
        }
        // elsewhere a WORD that is no NAME is 1
        faultOf(true, "foo", 1, 0);
        faultOf(true, "when run foo 1 go", 1, 9);
        faultOf(true, "when run > foo go", 1, 11);
        faultOf(true, "when run > 1 foo", 1, 13);
        faultOf(true, "go foo", 1, 3);
        faultOf(false, "foo 1", 1, 0);
        faultOf(false, "rest foo", 1, 5);
    }

    private static void manyRules() {
        Checks.sentence("3 MANY: a thirteenth RULE, a fifth TEST of one");
        faultOf(true, TWELVE_RULES, 0, -1);
        faultOf(true, TWELVE_RULES + ";go", 3, 36);
        faultOf(true, TWELVE_RULES + ";\n\nleave", 3, 38);
        faultOf(true, TWELVE_RULES + ";when", 3, 36);
        faultOf(true, TWELVE_RULES + ";when foo", 3, 36);
        faultOf(true, TWELVE_RULES + ";and", 1, 36);
        faultOf(true, TWELVE_RULES + ";run", 1, 36);
        faultOf(true, TWELVE_RULES + ";5", 1, 36);
        faultOf(true, TWELVE_RULES + ";#", 1, 36);
        faultOf(true, TWELVE_RULES + ";", 1, 36);
        faultOf(true, TWELVE_RULES + " go", 1, 36);
    }

    private static void manyTests() {
        Checks.sentence("a fifth TEST of one (at its first TOKEN;");
        faultOf(true, FOUR_TESTS + "go", 0, -1);
        faultOf(true, FOUR_TESTS + "go;" + FOUR_TESTS + "stay", 0, -1);
        faultOf(true, FOUR_TESTS + "and run>1go", 3, 41);
        faultOf(true, FOUR_TESTS + "and\n\nload", 3, 42);
        faultOf(true, FOUR_TESTS + "and foo>1go", 2, 41);
        faultOf(true, FOUR_TESTS + "and when", 1, 41);
        faultOf(true, FOUR_TESTS + "and leave", 1, 41);
        faultOf(true, FOUR_TESTS + "and 5", 1, 41);
        faultOf(true, FOUR_TESTS + "and #", 1, 41);
        faultOf(true, FOUR_TESTS + "and", 1, 40);
        faultOf(true, "go;" + FOUR_TESTS + "and run>1go", 3, 44);
        faultOf(true, FOUR_TESTS + "go;" + FOUR_TESTS + "and run>1go", 3, 81);
    }

    private static void firstFromTheLeft() {
        Checks.sentence("FAULTS, the first from the left");
        faultOf(true, "when foo > 1 go; #", 2, 5);
        faultOf(true, "go # when foo > 1 go", 1, 3);
        faultOf(true, "when foo > 12345 go", 2, 5);
        faultOf(true, FOUR_TESTS + "and run>1go go", 3, 41);
        faultOf(true, "go go;" + TWELVE_RULES, 1, 3);
        faultOf(true, TWELVE_RULES + ";when foo#", 3, 36);
        faultOf(false, "dogs 1 1;" + TEN_LAWS, 1, 7);
        faultOf(false, TEN_LAWS + ";dogs dogs", 3, 70);
    }

    private static void faults() {
        Checks.sentence("The FAULT of the latest plan(), laws() not refused by 2; 0 without one.");
        SledHouse x = new SledHouse();
        Checks.due("without a call", x.fault(), 0);
        x.plan(1);
        Checks.due("refused by 2", x.fault(), 0);
        Checks.plan(x, "when foo");
        Checks.due("2", x.fault(), 2);
        x.laws(1);
        Checks.due("a later one was refused by 2", x.fault(), 2);
        x.plan(-1);
        Checks.due("a later one was refused by 2", x.fault(), 2);
        Checks.laws(x, "dogs");
        Checks.due("the latest", x.fault(), 1);
        Checks.plan(x, TWELVE_RULES + ";go");
        Checks.due("the latest", x.fault(), 3);
        Checks.plan(x, "go");
        Checks.due("a good PLAN", x.fault(), 0);
        Checks.laws(x, "dogs");
        Checks.laws(x, "dogs 1");
        Checks.due("good LAWS", x.fault(), 0);
        x = Houses.full();
        Checks.plan(x, "go go");
        Checks.due("a FAULT", x.fault(), 1);
        Checks.plan(x, "go");
        Checks.due("refused by 3: no FAULT", x.fault(), 0);
    }

    private static void places() {
        Checks.sentence("The place of a FAULT, if the latest call that may be refused was by 4; NONE else.");
        SledHouse x = new SledHouse();
        Checks.due("without a call", x.where(), -1);
        Checks.plan(x, "go go");
        Checks.due("refused by 4", x.where(), 3);
        Checks.due("asked again", x.where(), 3);
        x.leg(0, 0);
        Checks.due("another was refused", x.where(), -1);
        Checks.laws(x, "dogs 1 1");
        Checks.due("refused by 4", x.where(), 7);
        x.leg(10, 100);
        Checks.due("another was not refused", x.where(), -1);
        Checks.due("the FAULT is still told", x.fault(), 1);
        Checks.plan(x, "go go");
        Checks.plan(x, "go");
        Checks.due("a good PLAN", x.where(), -1);
        Checks.plan(x, "go go");
        x.plan(1);
        Checks.due("refused by 2", x.where(), -1);
        Checks.plan(x, "go go");
        Checks.tape(x, "go");
        Checks.due("feed() may not be refused", x.where(), 3);
    }

    private static void lawParts() {
        Checks.sentence("its numbers a, b, c (what 1, 2, 3; 0 where there are none). NONE.");
        SledHouse x = new SledHouse();
        Checks.due("without LAWS", x.law(0, 0), -1);
        Checks.laws(x, "rest 1 at 2;rest 3 from 4 to 5;dogs 6;fine 7 for 8");
        int[][] want = {{0, 1, 2, 0}, {1, 3, 4, 5}, {2, 6, 0, 0}, {3, 7, 8, 0}};
        for (int i = 0; i < 4; i++) {
            for (int what = 0; what < 4; what++) {
                Checks.due("law(" + i + ", " + what + ")", x.law(i, what), want[i][what]);
            }
            for (int what : new int[] {-1, 4, Integer.MIN_VALUE, Integer.MAX_VALUE}) {
                Checks.due("law(" + i + ", " + what + ")", x.law(i, what), -1);
            }
        }
        for (int i : new int[] {-1, 4, 10, Integer.MIN_VALUE, Integer.MAX_VALUE}) {
            Checks.due("law(" + i + ", 0)", x.law(i, 0), -1);
        }
        x = Houses.full();
        Checks.due("law(9, 1)", x.law(9, 1), 7);
        Checks.due("law(10, 1)", x.law(10, 1), -1);
    }

    private static void plannedParts() {
        Checks.sentence("Of a PLAN, what 0 how many RULES, 1 how many TESTS. NONE.");
        SledHouse x = new SledHouse();
        Checks.due("without PLANS", x.planned(0, 0), -1);
        Checks.plan(x, "go");
        Checks.plan(x, TWELVE_RULES);
        Checks.plan(x, FOUR_TESTS + "go;stay;when run>1 go");
        int[][] want = {{1, 0}, {12, 0}, {3, 5}};
        for (int plan = 0; plan < 3; plan++) {
            Checks.due("RULES of " + plan, x.planned(plan, 0), want[plan][0]);
            Checks.due("TESTS of " + plan, x.planned(plan, 1), want[plan][1]);
            for (int what : new int[] {-1, 2, Integer.MIN_VALUE, Integer.MAX_VALUE}) {
                Checks.due("planned(" + plan + ", " + what + ")", x.planned(plan, what), -1);
            }
        }
        for (int plan : new int[] {-1, 3, 8, Integer.MIN_VALUE, Integer.MAX_VALUE}) {
            Checks.due("planned(" + plan + ", 0)", x.planned(plan, 0), -1);
            Checks.due("planned(" + plan + ", 1)", x.planned(plan, 1), -1);
        }
        x = Houses.full();
        Checks.due("planned(7, 0)", x.planned(7, 0), 1);
        Checks.due("planned(8, 0)", x.planned(8, 0), -1);
    }
}
