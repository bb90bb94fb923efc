import java.util.Arrays;
import java.util.Random;
import java.util.TreeMap;

/** All promises: random runs of calls on the class and on the document's second writing, held together. */
final class ManyRunsTest {
    private static final int RUNS = 3000;
    private static final int STEPS = 220;
    private static final Check CHECK = new Check();
    private static final TreeMap<Integer, Integer> SEEN = new TreeMap<>();

    private final Random random;
    private final Hand hand;
    private final PlainHouse plain = new PlainHouse();
    private final String name;
    private boolean differs;
    private final int doorWeight;
    private final int cutWeight;

    private ManyRunsTest(int seed) {
        random = new Random(seed);
        name = "run " + seed;
        hand = new Hand(CHECK);
        doorWeight = random.nextInt(4) == 0 ? 40 : 3;
        cutWeight = random.nextInt(3) == 0 ? 4 : random.nextInt(2);
    }

    public static void main(String[] args) {
        for (int seed = 0; seed < RUNS; seed++) {
            new ManyRunsTest(seed).run();
        }
        int[] kinds = {1, 2, 3, 4, 5, 6, 7, 8, 9, 10, 11, 12, 13, 14, 15, 16, 20, 21, 22, 23, 24, 25, 30, 40, 41, 42, 43,
            44, 45, 46, 47, 48, 51, 52, 53, 54, 55, 56, 57, 58, 59, 60, 61, 62, 63, 70};
        for (int kind : kinds) {
            CHECK.due("record " + kind + " came in some run", SEEN.getOrDefault(kind, 0) > 0, true);
        }
        CHECK.due("no other records came", SEEN.size(), kinds.length);
        if (args.length > 0) {
            System.out.println(SEEN);
        }
        CHECK.end();
    }

    private StationHouse x() {
        return hand.house;
    }

    private void due(String call, long got, long want) {
        differs |= got != want;
        CHECK.due(name + ": " + call, got, want);
    }

    private void run() {
        if (random.nextInt(10) > 0) {
            disk(Hand.enrolment());
            look();
            noDisk();
        }
        for (int c = 0; c < 3; c++) {
            issue(c);
        }
        if (random.nextInt(3) == 0) {
            fillRecords(80 + random.nextInt(17));
        }
        for (int i = 0; i < STEPS && !differs; i++) {
            step();
        }
        compareAll();
    }

    private void fillRecords(int count) {
        for (int i = 0; i < 60 && plain.records.size() < count && !differs; i++) {
            moveDoor();
            look();
        }
    }

    private void moveDoor() {
        plain.door = !plain.door;
        x().door(plain.door);
    }

    private void step() {
        int what = random.nextInt(100 + doorWeight + cutWeight);
        if (what < 45) {
            look();
        } else if (what < 62) {
            put(random.nextInt(10) < 7 ? 0 : 1);
        } else if (what < 68) {
            int f = random.nextInt(3) == 0 ? -1 : random.nextInt(3) == 0 ? random.nextInt(65536) : 5 ^ 1 << random.nextInt(16);
            due("finger", x().finger(f) ? 1 : 0, 1);
            plain.finger = f;
        } else if (what < 76) {
            int k = random.nextInt(5);
            if (plain.role > 0 && random.nextInt(3) > 0) {
                int[][] keysOf = {{0}, {3}, {1}, {2, 4}};
                int[] those = keysOf[plain.role];
                k = those[random.nextInt(those.length)];
            }
            due("key", x().key(k) ? 1 : 0, 1);
            plain.key = k;
        } else if (what < 82) {
            int[] times = {0, 1, 2, 5, 10, 11, 15, 20, 21, 25, 100, 200, 201, 400};
            int n = times[random.nextInt(times.length)];
            x().tick(n);
            plain.now += n;
        } else if (what < 88) {
            changeDisk();
        } else if (what < 93) {
            issue(random.nextInt(4));
        } else if (what < 95) {
            int c = random.nextInt(4);
            boolean may = random.nextInt(3) > 0;
            x().writable(c, may);
            plain.writable[c] = may;
        } else if (what < 100) {
            for (int i = random.nextInt(6); i > 0; i--) {
                look();
            }
        } else if (what < 100 + doorWeight) {
            moveDoor();
            if (doorWeight > 9) {
                look();
            }
        } else {
            int k = random.nextInt(6);
            x().cutAt(k);
            plain.cutAt = k;
        }
    }

    private void put(int reader) {
        int c = random.nextInt(5) - 1;
        boolean may = c < 0 || plain.readers[1 - reader] != c;
        due("put(" + reader + ", " + c + ")", x().put(reader, c) ? 1 : 0, may ? 1 : 0);
        if (may) {
            plain.readers[reader] = c;
        }
    }

    private void disk(byte[] bytes) {
        hand.disk(bytes);
        plain.disk = bytes.clone();
    }

    private void noDisk() {
        due("noDisk()", x().noDisk() ? 1 : 0, plain.disk == null ? 0 : 1);
        plain.disk = null;
    }

    private void changeDisk() {
        int what = random.nextInt(8);
        if (what < 2) {
            noDisk();
        } else if (what == 2) {
            disk(Hand.enrolment());
        } else if (what == 3 && plain.disk != null && plain.disk.length > 0) {
            byte[] other = plain.disk.clone();
            other[random.nextInt(other.length)] ^= 1 << random.nextInt(8);
            disk(other);
        } else if (what == 4 && plain.disk != null) {
            disk(Arrays.copyOf(plain.disk, Math.max(0, Math.min(400, plain.disk.length + random.nextInt(3) - 1))));
        } else if (what < 7) {
            disk(Hand.settings(1 + random.nextInt(20), 1 + random.nextInt(20), random.nextInt(20), 1 + random.nextInt(20),
                    1 + random.nextInt(300), random.nextInt(7), random.nextInt(18), random.nextInt(1010), random.nextInt(1010)));
        } else {
            disk(new byte[random.nextInt(30)]);
        }
    }

    /** Rows for a card, most of them as they should be. */
    private void issue(int c) {
        int flaw = random.nextInt(12);
        long from = flaw == 1 ? plain.now + random.nextInt(3) : Math.max(0, plain.now - random.nextInt(9));
        long to = flaw == 2 ? plain.now + random.nextInt(40) : flaw == 3 ? 0xffffffffL : plain.now + 300 + random.nextInt(900);
        int serial = flaw == 4 ? random.nextInt() : 50 + c;
        int role = random.nextInt(flaw == 5 ? 5 : 4);
        int level = random.nextInt(flaw == 6 ? 7 : 6);
        int kind = flaw == 7 ? 1 + random.nextInt(4) : 0;
        int[] key = flaw == 8 ? Hand.OTHER_KEY : Hand.KEY;
        int only = random.nextInt(3) == 0 ? random.nextInt(4) : -1;
        if (only < 0 || only == 0) {
            row(c, 0, Hand.head(Hand.WHO, Hand.OTHER, serial, 0, flaw == 9 ? 1 : 0, from, to).add(7, 4), Hand.OTHER_KEY);
        }
        if (only < 0 || only == 1) {
            row(c, 1, Hand.head(kind > 0 ? kind : Hand.RIGHT, Hand.OWN, 2, Hand.OTHER, serial, from, to).add(role, 1).add(level, 1), key);
        }
        if (only < 0 || only == 2) {
            row(c, 2, Hand.head(Hand.FINGER, flaw == 10 ? 7 : Hand.OTHER, 3, Hand.OTHER, serial, from, to).add(5, 2), Hand.OTHER_KEY);
        }
        if (only == 3 || only < 0 && random.nextInt(2) == 0) {
            row(c, 3, Hand.head(Hand.PASS, flaw == 11 ? Hand.OTHER : Hand.OWN, 4, Hand.OTHER, serial, from, to)
                    .add(role, 1).add(level, 1), flaw == 11 ? Hand.OTHER_KEY : key);
        }
    }

    private void row(int c, int place, Hand.Row text, int[] key) {
        byte[] bytes = text.bytes();
        hand.sealedRow(c, place, bytes, key);
        byte[] row = Arrays.copyOf(bytes, bytes.length + 16);
        System.arraycopy(PlainHouse.seal(bytes, new Hand.Row().key(key).bytes()), 0, row, bytes.length, 16);
        plain.cards[c][place] = row;
    }

    private void look() {
        if (differs) {
            return;
        }
        int before = plain.nextNumber;
        due("poll()", x().poll(), plain.poll());
        for (int i = 0; i < 23; i++) {
            due("show(" + i + ")", x().show(i), plain.show(i));
        }
        int count = plain.records.size();
        for (int i = Math.max(0, count - (plain.nextNumber - before)); i < count; i++) {
            byte[] record = plain.records.get(i);
            SEEN.merge(record[8] & 255, 1, Integer::sum);
            for (int k = 0; k < 16; k++) {
                due("record(" + i + ", " + k + ")", x().record(i, k), record[k] & 255);
            }
        }
    }

    private void compareAll() {
        for (int i = 0; i < plain.records.size(); i++) {
            for (int k = 0; k < 16; k++) {
                due("record(" + i + ", " + k + ")", x().record(i, k), plain.records.get(i)[k] & 255);
            }
        }
        for (int c = 0; c < 16; c++) {
            for (int place = 0; place < 4; place++) {
                byte[] row = plain.cards[c][place];
                due("size", x().size(c, place), row.length);
                for (int i = 0; i < row.length; i++) {
                    due("at", x().at(c, place, i), row[i] & 255);
                }
            }
        }
        int length = plain.disk == null ? 0 : plain.disk.length;
        for (int i = 0; i < length; i++) {
            due("diskAt(" + i + ")", x().diskAt(i), plain.disk[i] & 255);
        }
        due("diskAt(end)", x().diskAt(length), -1);
    }
}
