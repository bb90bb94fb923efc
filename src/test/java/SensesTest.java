/** Promises 8, 9, 12, 13, 14 and 17: what is told to the house, and wrong numbers for it. */
final class SensesTest {
    private static final Check CHECK = new Check();

    public static void main(String[] args) {
        fingers();
        keys();
        ticks();
        cuts();
        doorAndRecords();
        CHECK.end();
    }

    private static void fingers() {
        StationHouse x = new StationHouse();
        int[] right = {0, 65535, -1, 21};
        int[] wrong = {-2, 65536, Integer.MIN_VALUE, Integer.MAX_VALUE};
        for (int f : right) {
            CHECK.due("finger(" + f + ")", x.finger(f), true);
        }
        for (int f : wrong) {
            CHECK.due("finger(" + f + ")", x.finger(f), false);
        }
    }

    private static void keys() {
        StationHouse x = new StationHouse();
        for (int k = 0; k <= 4; k++) {
            CHECK.due("key(" + k + ")", x.key(k), true);
        }
        CHECK.due("key(5)", x.key(5), false);
        CHECK.due("key(-1)", x.key(-1), false);
    }

    private static void ticks() {
        StationHouse x = new StationHouse();
        CHECK.due("tick(0)", x.tick(0), true);
        CHECK.due("tick(100000)", x.tick(100000), true);
        CHECK.due("tick(100001)", x.tick(100001), false);
        CHECK.due("tick(-1)", x.tick(-1), false);
        CHECK.due("tick(least)", x.tick(Integer.MIN_VALUE), false);
        CHECK.due("NOW", x.show(8), 100000);
        StationHouse old = new StationHouse();
        // Only far more calls than an object is promised for bring the time to its end.
        for (int i = 0; i < 20000; i++) {
            old.tick(100000);
        }
        CHECK.due("NOW at its end", old.show(8), 2000000000);
        CHECK.due("tick(1) at the end", old.tick(1), false);
        CHECK.due("tick(0) at the end", old.tick(0), true);
    }

    private static void cuts() {
        StationHouse x = new StationHouse();
        CHECK.due("cutAt(-1)", x.cutAt(-1), false);
        CHECK.due("cutAt(11)", x.cutAt(11), false);
        CHECK.due("poll() not cut off", x.poll(), 0);
        CHECK.due("cutAt(10)", x.cutAt(10), true);
        CHECK.due("cutAt(11)", x.cutAt(11), false);
        CHECK.due("poll() cut off", x.poll(), -2);
        CHECK.due("poll() behind it", x.poll(), 0);
        CHECK.due("cutAt(0)", x.cutAt(0), true);
        CHECK.due("poll() cut off", x.poll(), -2);
        CHECK.due("no record of a start without enrolment", x.show(9), 0);
    }

    private static void doorAndRecords() {
        Hand hand = new Hand(CHECK);
        StationHouse x = hand.house;
        x.tick(0x12345);
        x.door(true);
        x.door(false);
        hand.look("a door that closed between looks");
        x.door(true);
        hand.look("door opens", 20, 24);
        hand.lastTells("door opens", 2, 255, 0);
        CHECK.due("alarm", x.show(1), 1);
        hand.look("door stays open");
        x.door(false);
        hand.look("door closes", 21, 25);
        hand.lastTells("door closes", 0, 255, 0);
        CHECK.due("no alarm", x.show(1), 0);
        CHECK.due("record(3, 15)", x.record(3, 15), 0);
        CHECK.due("record(3, 3)", x.record(3, 3), 4);
        CHECK.due("record(0, 5)", x.record(0, 5), 1);
        CHECK.due("record(0, 6)", x.record(0, 6), 0x23);
        CHECK.due("record(0, 7)", x.record(0, 7), 0x45);
        CHECK.due("record(4, 0)", x.record(4, 0), -1);
        CHECK.due("record(-1, 0)", x.record(-1, 0), -1);
        CHECK.due("record(0, 16)", x.record(0, 16), -1);
        CHECK.due("record(0, -1)", x.record(0, -1), -1);
        CHECK.due("record(most, most)", x.record(Integer.MAX_VALUE, Integer.MAX_VALUE), -1);
    }
}
