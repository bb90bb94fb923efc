import java.util.Random;

/** All promises: whatever numbers come, no call throws, and what is refused changes nothing. */
final class WildCallsTest {
    private static final int RUNS = 400;
    private static final int CALLS = 512;
    private static final int[] WILD = {
        Integer.MIN_VALUE, Integer.MIN_VALUE + 1, -65536, -2, -1, 0, 1, 2, 3, 4, 5, 10, 11, 15, 16, 17, 22, 23, 24, 38, 39, 40, 41,
        48, 95, 96, 384, 385, 399, 400, 401, 65535, 65536, 99999, 100000, 100001, Integer.MAX_VALUE - 1, Integer.MAX_VALUE
    };
    private static final Check CHECK = new Check();

    public static void main(String[] args) {
        for (int seed = 0; seed < RUNS; seed++) {
            run(new Random(seed));
        }
        CHECK.end();
    }

    private static int wild(Random random) {
        return random.nextInt(3) == 0 ? random.nextInt(6) - 1 : WILD[random.nextInt(WILD.length)];
    }

    private static void run(Random random) {
        Hand hand = new Hand(CHECK);
        if (random.nextBoolean()) {
            hand.enrol();
            hand.takeRole(2, 1 + random.nextInt(3));
            hand.soundCard(1, 2, 3);
        }
        StationHouse x = hand.house;
        for (int i = 0; i < CALLS; i++) {
            long before = print(x);
            int what = random.nextInt(24);
            if (isRefused(x, what, random)) {
                CHECK.due("what is refused (" + what + ") changes nothing", print(x), before);
            }
        }
    }

    private static boolean isRefused(StationHouse x, int what, Random random) {
        int a = wild(random);
        int b = wild(random);
        int c = wild(random);
        switch (what) {
            case 0: return x.feed(a, b, c, a, b) < 0;
            case 1: return x.cut(a) < 0;
            case 2: return x.seal(a, b, c, a) < 0;
            case 3: return !x.card(a, b);
            case 4: return !x.writable(a, b > 0);
            case 5: return !x.put(a, b);
            case 6: return !x.finger(a);
            case 7: x.door(a > 0); return false;
            case 8: return x.disk() < 0;
            case 9: return !x.noDisk();
            case 10: return !x.key(a);
            case 11: return !x.tick(a);
            case 12: return !x.cutAt(a);
            case 13: return x.show(a) > Integer.MIN_VALUE;
            case 14: return x.record(a, b) >= -1;
            case 15: return x.size(a, b) >= -1;
            case 16: return x.at(a, b, c) >= -1;
            case 17: return x.diskAt(a) >= -1;
            default: x.poll(); return false;
        }
    }

    /** A number for all that can be read without a change. */
    private static long print(StationHouse x) {
        long print = 0;
        for (int i = 0; i < 23; i++) {
            print = print * 31 + x.show(i);
        }
        for (int i = 0; i < x.show(9) * 16; i++) {
            print = print * 31 + x.record(i / 16, i % 16);
        }
        for (int i = 0; i < 64 * 48; i++) {
            print = print * 31 + x.at(i / 192, i / 48 % 4, i % 48);
        }
        for (int i = 0; i < 400; i++) {
            print = print * 31 + x.diskAt(i);
        }
        return print;
    }
}
