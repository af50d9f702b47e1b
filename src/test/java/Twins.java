import java.util.ArrayList;
import java.util.List;
import java.util.function.Consumer;
import java.util.function.Predicate;
import java.util.function.Supplier;
import java.util.function.ToIntFunction;

/**
 * Calls that are refused, held against a twin on which they were not made: all but TROUBLE is to stay as it was, both
 * what can be asked for at once and what later calls bring to light (COLD, EACH, GAPS, what TEAMS began with).
 */
final class Twins {
    private Twins() {
    }

    /** A call that answers NONE. */
    static void refused(Supplier<SledHouse> maker, String name, ToIntFunction<SledHouse> call, int trouble) {
        SledHouse x = maker.get();
        Checks.refused(x, name, call.applyAsInt(x), trouble);
        Checks.due(name + ": where()", x.where(), SledHouse.NONE);
        same(name, maker, () -> after(maker, call::applyAsInt));
    }

    /** A call that answers false. */
    static void denied(Supplier<SledHouse> maker, String name, Predicate<SledHouse> call, int trouble) {
        SledHouse x = maker.get();
        Checks.refused(x, name, call.test(x), trouble);
        Checks.due(name + ": where()", x.where(), SledHouse.NONE);
        same(name, maker, () -> after(maker, call::test));
    }

    static SledHouse after(Supplier<SledHouse> maker, Consumer<SledHouse> call) {
        SledHouse x = maker.get();
        call.accept(x);
        return x;
    }

    /** Objects of two makers are alike, now and behind further calls; each is asked anew, as 512 calls are the most. */
    static void same(String name, Supplier<SledHouse> want, Supplier<SledHouse> got) {
        compare(name + ": ", picture(want.get()), picture(got.get()));
        compare(name + ", later: ", later(want.get()), later(got.get()));
    }

    private static void compare(String name, List<String> want, List<String> got) {
        Checks.due(name + "answers", got.size(), want.size());
        for (int i = 0; i < want.size() && i < got.size(); i++) {
            if (!want.get(i).equals(got.get(i))) {
                Checks.due(name + "not " + want.get(i) + " but " + got.get(i), 0, 1);
            }
        }
    }

    private static List<String> later(SledHouse x) {
        List<String> all = new ArrayList<>();
        all.add("leg " + x.leg(33, 77));
        all.add("team " + x.team(6, 40, 2, 3, 0));
        for (int team = 0; team < 6; team++) {
            all.add("gap " + x.gap(team, 35, 36));
        }
        all.add("run " + x.run(60));
        all.addAll(picture(x));
        return all;
    }

    /** What can be asked of an object, but for TROUBLE and FAULTS. */
    static List<String> picture(SledHouse x) {
        List<String> all = new ArrayList<>();
        for (int what = 0; what <= 6; what++) {
            all.add("count(" + what + ") " + x.count(what));
        }
        for (int team = 0; team < x.count(1); team++) {
            ofTeam(x, team, all);
        }
        for (int i = 0; i <= x.count(1); i++) {
            all.add("place(" + i + ") " + x.place(i));
        }
        for (int post = 0; post < 4; post++) {
            all.add("came(" + post + ") " + x.came(post, x.count(4) / 2));
        }
        for (int i = 0; i < x.count(3); i++) {
            all.add("law(" + i + ") " + x.law(i, 0) + " " + x.law(i, 1) + " " + x.law(i, 2) + " " + x.law(i, 3));
        }
        for (int plan = 0; plan < x.count(2); plan++) {
            all.add("planned(" + plan + ") " + x.planned(plan, 0) + " " + x.planned(plan, 1));
        }
        return all;
    }

    private static void ofTeam(SledHouse x, int team, List<String> all) {
        for (int what = 0; what <= 12; what++) {
            all.add("about(" + team + ", " + what + ") " + x.about(team, what));
        }
        for (int dog = 0; dog <= 15; dog += dog == 0 ? 3 : 12) {
            all.add("dog(" + team + ", " + dog + ") " + x.dog(team, dog, 0) + " " + x.dog(team, dog, 1)
                + " " + x.dog(team, dog, 2));
        }
        for (int post = 0; post < 4; post++) {
            all.add("time(" + team + ", " + post + ") " + x.time(team, post, false) + " " + x.time(team, post, true));
        }
        int last = x.count(0);
        all.add("IN of the last, " + team + " " + x.time(team, last, false));
        all.add("AWAY of the last but one, " + team + " " + x.time(team, last - 1, true));
        int steps = x.count(4);
        for (int step = 0; step < steps; step += Math.max(1, steps / 2 - 1)) {
            all.add("spot(" + team + ", " + step + ") " + x.spot(team, step, false) + " " + x.spot(team, step, true));
        }
        all.add("did(" + team + ") " + x.did(team));
        all.add("result(" + team + ") " + x.result(team));
        all.add("lacks(" + team + ") " + x.lacks(team, 0) + " " + x.lacks(team, 1));
        all.add("signs(" + team + ") " + x.signs(team));
        for (int what = 0; what < 4; what++) {
            all.add("replay(" + team + ", 0, " + what + ") " + x.replay(team, 0, what));
        }
    }
}
