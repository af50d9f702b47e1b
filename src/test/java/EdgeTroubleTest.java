import java.util.LinkedHashMap;
import java.util.Map;
import java.util.function.Consumer;

/** The edges of term VII and of promises 8 and 30: where, trouble. What each call refuses is with its promise. */
public final class EdgeTroubleTest {
    private static final int[] EDGES = {Integer.MIN_VALUE, -1, 0, 1, 5, 6, 99, Integer.MAX_VALUE};

    public static void main(String[] args) {
        atFirst();
        eachNumber();
        grantedBehindRefused();
        refusedBehindGranted();
        questionsDontCount();
        askedTwice();
        Checks.end("EdgeTroubleTest");
    }

    private static void atFirst() {
        Checks.sentence("0 it wasn't;");
        SledHouse x = new SledHouse();
        Checks.due("trouble()", x.trouble(), 0);
        Checks.due("where()", x.where(), -1);
        Checks.due("fault()", x.fault(), 0);
    }

    /** An object whose latest call that may be refused tells this TROUBLE. */
    private static SledHouse troubled(int trouble) {
        SledHouse x = trouble == 3 ? Houses.full() : trouble == 5 ? Houses.racing() : Houses.laid();
        x.keep();
        switch (trouble) {
            case 1: x.follow(6, 0); break;
            case 2: x.cold(0, 0, 21); break;
            case 3: x.leg(10, 50); break;
            case 4: Checks.plan(x, "when run > 1 and foo"); break;
            case 5: x.each(1); break;
            default: x.cold(0, 0, 20); break;
        }
        told(x, "at first", trouble);
        return x;
    }

    private static void told(SledHouse x, String name, int trouble) {
        Checks.due(name + ": trouble()", x.trouble(), trouble);
        Checks.due(name + ": where()", x.where(), trouble == 4 ? 17 : -1);
        Checks.due(name + ": fault()", x.fault(), trouble == 4 ? 2 : 0);
    }

    private static void eachNumber() {
        Checks.sentence("1 there is none such; 2 a number; 3 no room; 4 a FAULT; 5 the race has begun, or is over.");
        for (int trouble = 0; trouble <= 5; trouble++) {
            troubled(trouble);
        }
        SledHouse x = Houses.over();
        x.run(1);
        Checks.due("it is over", x.trouble(), 5);
    }

    /** Calls that are not refused at any of these times. */
    private static Map<String, Consumer<SledHouse>> fine(boolean begun, boolean full) {
        Map<String, Consumer<SledHouse>> calls = new LinkedHashMap<>();
        calls.put("cold", x -> x.cold(0, 333, -50));
        calls.put("follow", x -> x.follow(0, 0));
        calls.put("run", x -> x.run(1));
        calls.put("replay", x -> x.replay(0, 0, 0));
        calls.put("replay that answers NONE", x -> x.replay(2, 0, 3));
        calls.put("back", SledHouse::back);
        if (!full) {
            calls.put("plan", x -> Checks.plan(x, "go"));
            calls.put("laws", x -> Checks.laws(x, "dogs 1"));
            calls.put("gap", x -> x.gap(0, 0, 0));
        }
        if (!begun) {
            calls.put("each", x -> x.each(48));
        }
        if (!begun && !full) {
            calls.put("leg", x -> x.leg(10, 50));
            calls.put("team", x -> x.team(4, 20, 0, 0, 0));
        }
        return calls;
    }

    private static void grantedBehindRefused() {
        Checks.sentence("TROUBLE of the latest call that may be refused: 0 it wasn't");
        for (int trouble = 0; trouble <= 5; trouble++) {
            for (Map.Entry<String, Consumer<SledHouse>> call : fine(trouble == 5, trouble == 3).entrySet()) {
                SledHouse x = troubled(trouble);
                call.getValue().accept(x);
                Checks.due(call.getKey() + " behind " + trouble + ": trouble()", x.trouble(), 0);
                Checks.due(call.getKey() + " behind " + trouble + ": where()", x.where(), -1);
            }
        }
    }

    private static Map<String, Integer> refusals(SledHouse x) {
        Map<String, Integer> told = new LinkedHashMap<>();
        x.leg(9, 50);
        told.put("leg 2", x.trouble());
        x.cold(0, 334, 0);
        told.put("cold 2", x.trouble());
        x.plan(1);
        told.put("plan 2", x.trouble());
        x.plan(0);
        told.put("plan 4", x.trouble());
        x.laws(1);
        told.put("laws 2", x.trouble());
        x.laws(0);
        told.put("laws 4", x.trouble());
        x.team(4, 20, 0, 0, 3);
        told.put("team 1", x.trouble());
        x.team(3, 20, 0, 0, 0);
        told.put("team 2", x.trouble());
        x.follow(3, 0);
        told.put("follow 1", x.trouble());
        x.gap(0, 2, 1);
        told.put("gap 2", x.trouble());
        x.gap(3, 1, 1);
        told.put("gap 1", x.trouble());
        x.each(49);
        told.put("each 2", x.trouble());
        x.run(501);
        told.put("run 2", x.trouble());
        x.replay(3, 0, 0);
        told.put("replay 1", x.trouble());
        x.replay(0, 0, 4);
        told.put("replay 2", x.trouble());
        x.back();
        told.put("back 1", x.trouble());
        return told;
    }

    /** One refusal behind another: the latest counts. */
    private static void refusedBehindGranted() {
        for (Map.Entry<String, Integer> one : refusals(Houses.laid()).entrySet()) {
            int want = Integer.parseInt(one.getKey().substring(one.getKey().length() - 1));
            Checks.due(one.getKey(), one.getValue(), want);
        }
    }

    private static void questionsDontCount() {
        Checks.sentence("TROUBLE of the latest call that may be refused");
        for (int trouble = 0; trouble <= 5; trouble++) {
            for (int a : EDGES) {
                ask(troubled(trouble), trouble, a);
            }
            SledHouse x = troubled(trouble);
            while (x.feed(0, 0, 0, 0, 0) != -1) {
                told(x, "feed", trouble);
            }
            told(x, "feed of a full tape", trouble);
            x.keep();
            told(x, "keep", trouble);
        }
    }

    private static void ask(SledHouse x, int trouble, int a) {
        x.about(a, 0);
        x.about(0, a);
        told(x, "about", trouble);
        x.dog(a, 0, 0);
        x.dog(0, a, 0);
        x.dog(0, 0, a);
        told(x, "dog", trouble);
        x.time(a, 0, true);
        x.time(0, a, false);
        told(x, "time", trouble);
        x.did(a);
        told(x, "did", trouble);
        x.result(a);
        told(x, "result", trouble);
        x.lacks(a, 0);
        x.lacks(0, a);
        told(x, "lacks", trouble);
        x.place(a);
        told(x, "place", trouble);
        x.came(a, 0);
        x.came(0, a);
        told(x, "came", trouble);
        x.spot(a, 0, true);
        x.spot(0, a, false);
        told(x, "spot", trouble);
        x.signs(a);
        told(x, "signs", trouble);
        x.law(a, 0);
        x.law(0, a);
        told(x, "law", trouble);
        x.planned(a, 0);
        x.planned(0, a);
        told(x, "planned", trouble);
        x.count(a);
        told(x, "count", trouble);
    }

    private static void askedTwice() {
        SledHouse x = troubled(4);
        for (int i = 0; i < 3; i++) {
            told(x, "asked again", 4);
        }
    }
}
