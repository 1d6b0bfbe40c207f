import java.util.ArrayList;
import java.util.Collections;
import java.util.List;
import java.util.Random;

/** Runs of 512 calls, drawn from fixed seeds, against a house written from the terms alone. */
public final class RandomRunsTest {
    private static final Check CHECK = new Check();
    private static final int CALLS = 512;

    private static final String[] NAMES = {"put", "remove", "move", "at", "place", "pair",
        "partner", "blocking", "satisfy", "size", "matchings", "matched", "extreme", "together",
        "party", "next", "parties", "astray", "together with itself"};

    private final long seed;
    private final Random random;
    private final int most;
    private final House house = new ProgramHouse();
    private final House slow = new SlowHouse();
    private int left = CALLS;

    private RandomRunsTest(long seed, int most) {
        this.seed = seed;
        this.random = new Random(seed);
        this.most = most;
    }

    public static void main(String[] args) {
        for (int seed = 0; seed < 600; seed++) {
            new RandomRunsTest(seed, 2 + seed % 5).run();
        }
        for (int seed = 600; seed < 640; seed++) {
            new RandomRunsTest(seed, 7 + seed % 2).run();
        }
        CHECK.finish();
    }

    private void run() {
        while (left > 0) {
            if (random.nextInt(100) == 0 || left == CALLS) {
                fill();
            }
            call(random.nextInt(NAMES.length), who(), who(), place());
            if (random.nextInt(60) == 0) {
                askAll();
            }
        }
    }

    private int who() {
        return odd(random.nextInt(Math.max(1, house.size())), house.size());
    }

    private int place() {
        return odd(random.nextInt(Math.max(1, house.size())), house.size());
    }

    /** Now and then an argument that is out of bounds. */
    private int odd(int usual, int end) {
        switch (random.nextInt(80)) {
            case 0: return -1;
            case 1: return end;
            case 2: return Integer.MAX_VALUE;
            case 3: return Integer.MIN_VALUE;
            default: return usual;
        }
    }

    private void fill() {
        int n = random.nextInt(4) == 0 ? random.nextInt(most + 1) : most;
        compare("people(" + n + ")", Check.answer(() -> house.people(n)),
                Check.answer(() -> slow.people(n)));
        int keepOneIn = 1 + random.nextInt(12);
        for (int person = 0; person < n; person++) {
            List<Integer> others = new ArrayList<>();
            for (int other = 0; other < n; other++) {
                if (other != person && (keepOneIn == 1 || random.nextInt(keepOneIn) != 0)) {
                    others.add(other);
                }
            }
            Collections.shuffle(others, random);
            for (int other : others) {
                call(0, person, other, 0);
            }
        }
    }

    private void askAll() {
        for (int person = 0; person < house.size(); person++) {
            for (int kind = 11; kind <= 15; kind++) {
                call(kind, person, (person + 1) % house.size(), 0);
            }
        }
        call(10, 0, 0, 0);
        call(16, 0, 0, 0);
    }

    private void call(int kind, int a, int b, int i) {
        boolean flag = random.nextBoolean();
        int j = place();
        String name = NAMES[kind] + " of (" + a + "," + b + "," + i + "," + j + "," + flag + ")";
        compare(name, Check.answer(() -> ask(house, kind, a, b, i, j, flag)),
                Check.answer(() -> ask(slow, kind, a, b, i, j, flag)));
    }

    /** Behind a wrong answer the two houses may differ, so the run ends there. */
    private void compare(String name, String got, String want) {
        if (left > 0) {
            CHECK.same("seed " + seed + ", call " + (CALLS - left + 1) + ": " + name, got, want);
            left = got.equals(want) ? left - 1 : 0;
        }
    }

    private static int ask(House house, int kind, int a, int b, int i, int j,
            boolean flag) {
        switch (kind) {
            case 0: return house.put(a, b);
            case 1: return house.remove(a, i);
            case 2: return house.move(a, i, j);
            case 3: return house.at(a, i);
            case 4: return house.place(a, b);
            case 5: return house.pair(a, b);
            case 6: return house.partner(a);
            case 7: return house.blocking();
            case 8: return house.satisfy();
            case 9: return house.size();
            case 10: return house.matchings();
            case 11: return house.matched(a);
            case 12: return house.extreme(a, flag);
            case 13: return house.together(a, b);
            case 14: return house.party(a);
            case 15: return house.next(a);
            case 16: return house.parties(flag);
            case 17: return house.astray();
            default: return house.together(a, a);
        }
    }
}
