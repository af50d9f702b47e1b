import java.util.Random;

/** LANGUAGE rule 7: no call ever throws, whatever its arguments and whenever it comes (beyond the 512th call, too). */
public final class NeverThrowsTest {
    private static final int[] NUMBERS = {Integer.MIN_VALUE, Integer.MIN_VALUE + 1, -60, -51, -50, -20, -2, -1, 0, 1, 2, 3,
        4, 5, 6, 7, 8, 9, 10, 11, 12, 13, 14, 15, 16, 17, 19, 20, 21, 47, 48, 49, 50, 60, 61, 99, 100, 101, 200, 201, 300,
        301, 333, 334, 399, 400, 401, 499, 500, 501, 1998, 1999, 2000, 2001, Integer.MAX_VALUE - 1, Integer.MAX_VALUE};
    private static final int SEEDS = 300;
    private static final int CALLS = 700;

    public static void main(String[] args) {
        int homes = 0;
        for (int seed = 1; seed <= SEEDS; seed++) {
            homes += new NeverThrowsTest(seed).play();
        }
        Checks.due("some TEAMS came HOME by chance", homes > 0, true);
        Checks.end("NeverThrowsTest");
    }

    private final Random random;
    private final SledHouse x = new SledHouse();

    private NeverThrowsTest(int seed) {
        random = new Random(seed);
    }

    private int any() {
        return random.nextInt(30) == 0 ? random.nextInt() : NUMBERS[random.nextInt(NUMBERS.length)];
    }

    /** Mostly a small number, as most of what there may be has one. */
    private int small() {
        return random.nextInt(4) == 0 ? any() : random.nextInt(5);
    }

    private boolean either() {
        return random.nextBoolean();
    }

    private int play() {
        for (int i = 0; i < CALLS; i++) {
            if (i < 60 || random.nextInt(3) == 0) {
                change(random.nextInt(16), i < 60);
            } else {
                ask(random.nextInt(18));
            }
        }
        return x.about(0, 0) == 2 ? 1 : 0;
    }

    private void change(int kind, boolean early) {
        switch (kind) {
            case 0: x.leg(any(), any()); break;
            case 1: x.leg(20 + random.nextInt(200), 50 + random.nextInt(150)); break;
            case 2: x.cold(any(), any(), any()); break;
            case 3: x.feed(any(), any(), any(), any(), random.nextInt()); break;
            case 4: x.plan(any()); break;
            case 5: x.laws(any()); break;
            case 6: Checks.plan(x, ModelTest.Texts.plan(random)); break;
            case 7: Checks.laws(x, ModelTest.Texts.laws(random)); break;
            case 8: x.team(any(), any(), any(), any(), small()); break;
            case 9: x.team(4 + random.nextInt(13), 20 + random.nextInt(280), random.nextInt(61), small(), small()); break;
            case 10: x.follow(small(), small()); break;
            case 11: x.gap(small(), any(), any()); break;
            case 12: x.each(any()); break;
            case 13: x.keep(); break;
            case 14: x.back(); break;
            default: x.run(early ? small() : any()); break;
        }
    }

    private void ask(int kind) {
        switch (kind) {
            case 0: x.fault(); break;
            case 1: x.where(); break;
            case 2: x.about(small(), small()); break;
            case 3: x.dog(small(), small(), small()); break;
            case 4: x.time(small(), small(), either()); break;
            case 5: x.did(small()); break;
            case 6: x.result(small()); break;
            case 7: x.lacks(small(), small()); break;
            case 8: x.place(small()); break;
            case 9: x.came(small(), any()); break;
            case 10: x.spot(small(), any(), either()); break;
            case 11: x.signs(small()); break;
            case 12: x.replay(small(), small(), small()); break;
            case 13: x.law(small(), small()); break;
            case 14: x.planned(small(), small()); break;
            case 15: x.count(any()); break;
            case 16: x.count(small()); break;
            default: x.trouble(); break;
        }
    }
}
