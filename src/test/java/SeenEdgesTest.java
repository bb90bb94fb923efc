/** The edges of promises 1, 6 writable, 7 put, 8 finger, 9 door, 12 key, 13 tick, 14 cutAt and 16 show. */
final class SeenEdgesTest {
    private static final int LEAST = Integer.MIN_VALUE;
    private static final int MOST = Integer.MAX_VALUE;
    private static final Check CHECK = new Check();

    public static void main(String[] args) {
        newHouseSeesNothing();
        newCardsMayBeWrittenTo();
        writableOfTheFirstAndTheLastCard();
        refusedWritableChangesNothing();
        putOfTheFirstAndTheLastCard();
        putOfNoSuchReaderOrCard();
        putOfACardThatIsAtTheOtherReader();
        putOfNoneAndOfTheSameCard();
        fingerOfEachEdge();
        refusedFingerChangesNothing();
        doorThatMovesAndMovesBack();
        keyOfEachEdge();
        refusedKeyChangesNothing();
        keyOfNoneTakesItBack();
        tickOfEachEdge();
        tickUpToTheLastTime();
        cutAtOfEachEdge();
        refusedCutAtChangesNothing();
        laterCutAtCounts();
        showOfNone();
        CHECK.end();
    }

    private static void newHouseSeesNothing() {
        Hand h = new Hand(CHECK);
        h.look("a new house has nothing to do");
        h.enrol();
        h.look("and sees no card, no finger, no key, a closed door");
        h.soundCard(0, 1, 0);
        h.house.put(0, 0);
        h.look("card", 2);
        h.look("sound", 4);
        h.look("no finger is there at first");
        h.house.put(0, -1);
        h.look("gone", 1);
        h.takeRole(1, 1);
        h.look("no key is pressed at first");
    }

    /** Brings a card to where its pass is written, and tells which record comes then. */
    private static int recordOfWriting(Hand h, int card) {
        h.soundCard(card, 0, 0);
        h.house.put(0, card);
        h.house.finger(5);
        for (int i = 0; i < 4; i++) {
            h.house.poll();
        }
        h.outside("writes", 4, 3);
        h.house.poll();
        return h.house.record(h.house.show(9) - 1, 8);
    }

    private static void newCardsMayBeWrittenTo() {
        for (int card = 0; card < 16; card++) {
            CHECK.due("a new card " + card, recordOfWriting(Hand.enrolled(CHECK), card), 10);
        }
    }

    private static void writableOfTheFirstAndTheLastCard() {
        for (int card = 0; card < 16; card += 15) {
            Hand h = Hand.enrolled(CHECK);
            CHECK.due("writable(" + card + ", false)", h.house.writable(card, false), true);
            CHECK.due("may not be written to", recordOfWriting(h, card), 11);
            CHECK.due("no pass", h.house.size(card, 3), 0);
            Hand g = Hand.enrolled(CHECK);
            g.house.writable(card, false);
            CHECK.due("writable(" + card + ", true)", g.house.writable(card, true), true);
            CHECK.due("may be written to again", recordOfWriting(g, card), 10);
        }
        Hand h = Hand.enrolled(CHECK);
        h.house.writable(14, false);
        CHECK.due("the next card is not meant", recordOfWriting(h, 15), 10);
    }

    private static void refusedWritableChangesNothing() {
        for (int c : new int[] {LEAST, -16, -1, 16, 31, MOST}) {
            for (int card = 0; card < 16; card += 15) {
                Hand h = Hand.enrolled(CHECK);
                CHECK.due("writable(" + c + ", false)", h.house.writable(c, false), false);
                CHECK.due("writable(" + c + ", true)", h.house.writable(c, true), false);
                h.house.writable(c, false);
                CHECK.due("as before", recordOfWriting(h, card), 10);
            }
        }
    }

    private static void putOfTheFirstAndTheLastCard() {
        for (int card = 0; card < 16; card += 15) {
            Hand h = Hand.enrolled(CHECK);
            h.soundCard(card, 0, 0);
            CHECK.due("put(0, " + card + ")", h.house.put(0, card), true);
            h.look("outer", 2);
            h.lastTells("outer", 0, card, 50 + card);
            Hand g = Hand.enrolled(CHECK);
            g.soundCard(card, 0, 0);
            CHECK.due("put(1, " + card + ")", g.house.put(1, card), true);
            g.look("inner", 42);
            g.lastTells("inner", 0, card, 50 + card);
        }
    }

    private static void putOfNoSuchReaderOrCard() {
        Hand h = Hand.enrolled(CHECK);
        h.house.put(0, 3);
        h.house.put(1, 4);
        for (int reader : new int[] {LEAST, -1, 2, 3, MOST}) {
            for (int c : new int[] {-1, 0, 7, 15}) {
                CHECK.due("put(" + reader + ", " + c + ")", h.house.put(reader, c), false);
            }
        }
        for (int c : new int[] {LEAST, -16, -2, 16, 17, MOST}) {
            CHECK.due("put(0, " + c + ")", h.house.put(0, c), false);
            CHECK.due("put(1, " + c + ")", h.house.put(1, c), false);
            CHECK.due("put(2, " + c + ")", h.house.put(2, c), false);
        }
        h.look("the inner card stays", 42);
        h.lastTells("the inner card stays", 0, 4, 0);
        h.look("it has no pass", 45);
        h.look("the outer card stays", 2);
        h.lastTells("the outer card stays", 0, 3, 0);
    }

    private static void putOfACardThatIsAtTheOtherReader() {
        Hand h = Hand.enrolled(CHECK);
        h.house.put(0, 3);
        h.house.put(1, 4);
        CHECK.due("put(1, 3) while it is outside", h.house.put(1, 3), false);
        CHECK.due("put(0, 4) while it is inside", h.house.put(0, 4), false);
        h.look("the inner card stays", 42);
        h.lastTells("the inner card stays", 0, 4, 0);
        h.house.put(1, -1);
        CHECK.due("put(0, 4) then", h.house.put(0, 4), true);
        CHECK.due("put(1, 3) then", h.house.put(1, 3), true);
        h.look("another one at the inner reader", 43);
        h.look("which is seen", 42);
        h.lastTells("which is seen", 0, 3, 0);
    }

    private static void putOfNoneAndOfTheSameCard() {
        StationHouse x = new StationHouse();
        for (int reader = 0; reader < 2; reader++) {
            CHECK.due("none where none is", x.put(reader, -1), true);
            CHECK.due("a card", x.put(reader, 0), true);
            CHECK.due("the same again", x.put(reader, 0), true);
            CHECK.due("another in its place", x.put(reader, 1), true);
            CHECK.due("none at both", x.put(1 - reader, -1), true);
            CHECK.due("none", x.put(reader, -1), true);
        }
    }

    /** A card that waits for a finger, with that template. */
    private static Hand waiting(int template) {
        Hand h = Hand.enrolled(CHECK);
        h.soundCard(1, 0, 0);
        h.sealedRow(1, 2, Hand.head(Hand.FINGER, Hand.OTHER, 3, Hand.OTHER, 51, 0, Hand.LATE).add(template, 2).bytes(), Hand.OTHER_KEY);
        h.house.put(0, 1);
        h.look("card", 2);
        h.look("sound", 4);
        h.outside("waits", 2, 2);
        return h;
    }

    private static void fingerOfEachEdge() {
        for (int f : new int[] {0, 1, 32768, 65535}) {
            Hand h = waiting(f);
            CHECK.due("finger(" + f + ")", h.house.finger(f), true);
            h.look("finger " + f + " is one", 6);
            h.look("and is its template", 8);
        }
        Hand h = waiting(65535);
        h.house.finger(0);
        h.look("finger 0", 6);
        h.look("is nothing like 65535", 9);
        Hand g = waiting(5);
        g.house.finger(5);
        CHECK.due("finger(NONE)", g.house.finger(-1), true);
        g.look("no finger is there any more");
    }

    private static void refusedFingerChangesNothing() {
        for (int f : new int[] {LEAST, -65536, -2, 65536, 65541, MOST}) {
            Hand h = waiting(5);
            CHECK.due("finger(" + f + ")", h.house.finger(f), false);
            h.look("none is there still");
            h.house.finger(5);
            CHECK.due("finger(" + f + ")", h.house.finger(f), false);
            h.look("that one is there still", 6);
            h.look("that one", 8);
        }
    }

    private static void doorThatMovesAndMovesBack() {
        Hand h = new Hand(CHECK);
        h.house.door(false);
        h.look("closed as at first");
        h.house.door(true);
        h.house.door(false);
        h.look("open and closed between two looks");
        h.house.door(true);
        h.house.door(true);
        h.look("open", 20, 24);
        h.house.door(false);
        h.house.door(true);
        h.look("closed and open between two looks");
        h.house.door(false);
        h.look("closed", 21, 25);
    }

    private static void keyOfEachEdge() {
        int[] roles = {0, 2, 3, 1, 3};
        for (int k = 1; k <= 4; k++) {
            Hand h = Hand.enrolled(CHECK);
            h.takeRole(1, roles[k]);
            CHECK.due("key(" + k + ")", h.house.key(k), true);
            h.look("key " + k, 50 + k);
        }
    }

    private static void refusedKeyChangesNothing() {
        for (int k : new int[] {LEAST, -4, -1, 5, 6, 256, MOST}) {
            Hand h = Hand.enrolled(CHECK);
            h.takeRole(1, 3);
            CHECK.due("key(" + k + ")", h.house.key(k), false);
            h.look("none is pressed still");
            h.house.key(2);
            CHECK.due("key(" + k + ")", h.house.key(k), false);
            h.look("that one is pressed still", 52);
        }
    }

    private static void keyOfNoneTakesItBack() {
        Hand h = Hand.enrolled(CHECK);
        h.takeRole(1, 3);
        h.house.key(2);
        CHECK.due("key(0)", h.house.key(0), true);
        h.look("none is pressed");
        h.house.key(1);
        h.house.key(4);
        h.look("the later one is pressed", 54);
    }

    private static void tickOfEachEdge() {
        StationHouse x = new StationHouse();
        CHECK.due("tick(0)", x.tick(0), true);
        CHECK.due("NOW", x.show(8), 0);
        CHECK.due("tick(1)", x.tick(1), true);
        CHECK.due("NOW", x.show(8), 1);
        CHECK.due("tick(100000)", x.tick(100000), true);
        CHECK.due("NOW", x.show(8), 100001);
        for (int n : new int[] {LEAST, -100000, -1, 100001, 2000000000, MOST}) {
            CHECK.due("tick(" + n + ")", x.tick(n), false);
            CHECK.due("NOW is as before", x.show(8), 100001);
        }
    }

    /** Only more calls than an object is promised for come so far: the limit is held all the same. */
    private static void tickUpToTheLastTime() {
        StationHouse x = new StationHouse();
        for (int i = 0; i < 19999; i++) {
            x.tick(100000);
        }
        x.tick(99999);
        CHECK.due("NOW", x.show(8), 1999999999);
        CHECK.due("tick(2) beyond the last time", x.tick(2), false);
        CHECK.due("tick(100000) beyond it", x.tick(100000), false);
        CHECK.due("NOW is as before", x.show(8), 1999999999);
        CHECK.due("tick(1) to the last time", x.tick(1), true);
        CHECK.due("NOW", x.show(8), 2000000000);
        CHECK.due("tick(1) beyond it", x.tick(1), false);
        CHECK.due("tick(0) at it", x.tick(0), true);
    }

    private static void cutAtOfEachEdge() {
        for (int k = 0; k <= 10; k++) {
            Hand h = new Hand(CHECK);
            CHECK.due("cutAt(" + k + ")", h.house.cutAt(k), true);
            h.cutLook("the next look is cut off", -2);
            h.look("the one behind it is not");
        }
    }

    private static void refusedCutAtChangesNothing() {
        for (int k : new int[] {LEAST, -2, -1, 11, 12, MOST}) {
            Hand h = new Hand(CHECK);
            CHECK.due("cutAt(" + k + ")", h.house.cutAt(k), false);
            h.look("the next look is not cut off");
            h.house.cutAt(1);
            CHECK.due("cutAt(" + k + ")", h.house.cutAt(k), false);
            h.house.door(true);
            h.cutLook("it is cut off behind one record still", -3, 20);
        }
    }

    private static void laterCutAtCounts() {
        Hand h = new Hand(CHECK);
        h.house.cutAt(0);
        h.house.cutAt(1);
        h.house.door(true);
        h.cutLook("behind one", -3, 20);
        h.house.cutAt(10);
        h.house.cutAt(0);
        h.house.door(false);
        h.cutLook("behind none", -2);
        h.look("and just once");
    }

    private static void showOfNone() {
        Hand h = Hand.enrolled(CHECK);
        for (int what : new int[] {LEAST, -2, -1, 23, 24, 256, MOST}) {
            CHECK.due("show(" + what + ")", h.house.show(what), -1);
        }
        CHECK.due("show(22)", h.house.show(22), 999);
        CHECK.due("show(14)", h.house.show(14), 15);
        CHECK.due("show(13)", h.house.show(13), 2);
        CHECK.due("show(12)", h.house.show(12), Hand.OWN);
    }
}
