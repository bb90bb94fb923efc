/** The edges of promises 2 feed, 3 cut, 4 seal, 5 card, 10 disk, 11 noDisk, 18 size, 19 at and 20 diskAt. */
final class TapeEdgesTest {
    private static final int LEAST = Integer.MIN_VALUE;
    private static final int MOST = Integer.MAX_VALUE;
    private static final int[] NO_CARDS = {LEAST, -16, -2, -1, 16, 17, 256, MOST};
    private static final int[] NO_PLACES = {LEAST, -4, -1, 4, 5, 256, MOST};
    private static final Check CHECK = new Check();

    public static void main(String[] args) {
        feedPutsEachNumbersHighestByteFirst();
        feedComesBehindWhatIsThere();
        feedStopsAtFourHundred();
        refusedFeedChangesNothing();
        cutOfAnEmptyTape();
        cutBelowZeroOrOfMoreThanThereIs();
        cutKeepsTheFirstBytes();
        cutToNothing();
        sealOfAnEmptyTape();
        sealOfASealedTape();
        sealStopsAtFourHundred();
        refusedSealChangesNothing();
        cardOfAnEmptyTape();
        cardOfEachLengthUpToFortyEight();
        cardOfMoreThanFortyEight();
        cardOfNoSuchCardOrPlace();
        eachCardAndPlaceHasItsOwnRow();
        diskOfAnEmptyTape();
        diskOfAFullTape();
        diskTakesThePlaceOfAnother();
        noDiskTellsWhetherThereWasOne();
        sizeOfNone();
        atOfNone();
        diskAtOfNone();
        CHECK.end();
    }

    private static StationHouse taped(int length) {
        Hand hand = new Hand(CHECK);
        byte[] bytes = new byte[length];
        for (int i = 0; i < length; i++) {
            bytes[i] = valueAt(i);
        }
        hand.tape(bytes);
        return hand.house;
    }

    private static byte valueAt(int i) {
        return (byte) (i * 7 + 200);
    }

    /** The tape is looked at by way of a disk, which uses it up. */
    private static void tapeHas(String what, StationHouse x, int length) {
        CHECK.due(what + ": disk()", x.disk(), length);
        for (int i = 0; i < length; i++) {
            CHECK.due(what + ": byte " + i, x.diskAt(i), valueAt(i) & 255);
        }
        CHECK.due(what + ": behind the end", x.diskAt(length), -1);
    }

    private static void tapeIsUsedUp(String what, StationHouse x) {
        CHECK.due(what + ": cut(1) of a tape used up", x.cut(1), -1);
        CHECK.due(what + ": cut(0) of a tape used up", x.cut(0), 0);
        CHECK.due(what + ": feed on a tape used up", x.feed(0, 0, 0, 0, 0), 20);
        x.cut(0);
    }

    private static void feedPutsEachNumbersHighestByteFirst() {
        StationHouse x = new StationHouse();
        CHECK.due("feed", x.feed(0x80010203, 0x7f000001, -1, LEAST, 0x00fffe01), 20);
        x.disk();
        int[] due = {128, 1, 2, 3, 127, 0, 0, 1, 255, 255, 255, 255, 128, 0, 0, 0, 0, 255, 254, 1, -1};
        for (int i = 0; i < due.length; i++) {
            CHECK.due("fed byte " + i, x.diskAt(i), due[i]);
        }
    }

    private static void feedComesBehindWhatIsThere() {
        StationHouse x = taped(3);
        CHECK.due("feed behind 3", x.feed(0x09000000, 0, 0, 0, 8), 23);
        x.disk();
        CHECK.due("the last of 3", x.diskAt(2), valueAt(2) & 255);
        CHECK.due("the first behind", x.diskAt(3), 9);
        CHECK.due("the last behind", x.diskAt(22), 8);
    }

    private static void feedStopsAtFourHundred() {
        for (int length = 379; length <= 400; length++) {
            StationHouse x = taped(length);
            CHECK.due("feed on " + length, x.feed(1, 2, 3, 4, 5), length <= 380 ? length + 20 : -1);
        }
    }

    private static void refusedFeedChangesNothing() {
        for (int length : new int[] {381, 399, 400}) {
            StationHouse x = taped(length);
            x.feed(1, 2, 3, 4, 5);
            tapeHas("refused feed", x, length);
        }
    }

    private static void cutOfAnEmptyTape() {
        StationHouse x = new StationHouse();
        CHECK.due("cut(0)", x.cut(0), 0);
        CHECK.due("cut(1)", x.cut(1), -1);
        CHECK.due("cut(-1)", x.cut(-1), -1);
    }

    private static void cutBelowZeroOrOfMoreThanThereIs() {
        StationHouse x = taped(30);
        for (int n : new int[] {LEAST, -2, -1, 31, 32, 400, 401, MOST}) {
            CHECK.due("cut(" + n + ") of 30", x.cut(n), -1);
        }
        tapeHas("refused cut", x, 30);
    }

    private static void cutKeepsTheFirstBytes() {
        for (int n = 0; n <= 30; n++) {
            StationHouse x = taped(30);
            CHECK.due("cut(" + n + ") of 30", x.cut(n), 30 - n);
            tapeHas("cut", x, n);
        }
        StationHouse full = taped(400);
        CHECK.due("cut(400) of 400", full.cut(400), 0);
        CHECK.due("cut(399) of 400", full.cut(399), 1);
        tapeHas("cut to 399", full, 399);
    }

    private static void cutToNothing() {
        StationHouse x = taped(400);
        CHECK.due("cut(0) of 400", x.cut(0), 400);
        CHECK.due("cut(1) of nothing", x.cut(1), -1);
        CHECK.due("feed anew", x.feed(0x0a000000, 0, 0, 0, 0), 20);
        x.disk();
        CHECK.due("what was cut is gone", x.diskAt(0), 10);
        CHECK.due("what was cut is gone", x.diskAt(1), 0);
    }

    private static void sealOfAnEmptyTape() {
        StationHouse x = new StationHouse();
        CHECK.due("seal of nothing", x.seal(0x01020304, 0x05060708, 0x090a0b0c, 0x8d8e8f90), 16);
        x.disk();
        byte[] due = PlainHouse.seal(new byte[0], new Hand.Row().key(Hand.KEY).bytes());
        for (int i = 0; i < 16; i++) {
            CHECK.due("seal of nothing, byte " + i, x.diskAt(i), due[i] & 255);
        }
        CHECK.due("its end", x.diskAt(16), -1);
    }

    private static void sealOfASealedTape() {
        StationHouse x = taped(5);
        CHECK.due("seal", x.seal(-1, 77, 0x7fffffff, 5), 21);
        CHECK.due("seal of the sealed", x.seal(-1, 77, 0x7fffffff, 5), 37);
        x.disk();
        byte[] first = new byte[21];
        for (int i = 0; i < 21; i++) {
            first[i] = (byte) x.diskAt(i);
        }
        byte[] due = PlainHouse.seal(first, new Hand.Row().key(Hand.OTHER_KEY).bytes());
        for (int i = 0; i < 16; i++) {
            CHECK.due("second seal, byte " + i, x.diskAt(21 + i), due[i] & 255);
        }
    }

    private static void sealStopsAtFourHundred() {
        for (int length = 383; length <= 400; length++) {
            StationHouse x = taped(length);
            CHECK.due("seal on " + length, x.seal(1, 2, 3, 4), length <= 384 ? length + 16 : -1);
        }
    }

    private static void refusedSealChangesNothing() {
        for (int length : new int[] {385, 399, 400}) {
            StationHouse x = taped(length);
            x.seal(1, 2, 3, 4);
            tapeHas("refused seal", x, length);
        }
    }

    private static void cardOfAnEmptyTape() {
        StationHouse x = taped(10);
        x.card(4, 2);
        CHECK.due("card of nothing", x.card(4, 2), true);
        CHECK.due("an empty row", x.size(4, 2), 0);
        CHECK.due("an empty row's byte", x.at(4, 2, 0), -1);
    }

    private static void cardOfEachLengthUpToFortyEight() {
        for (int length = 0; length <= 48; length++) {
            StationHouse x = taped(length);
            CHECK.due("card of " + length, x.card(9, 1), true);
            CHECK.due("size", x.size(9, 1), length);
            for (int i = 0; i < length; i++) {
                CHECK.due("at " + i, x.at(9, 1, i), valueAt(i) & 255);
            }
            CHECK.due("at the end", x.at(9, 1, length), -1);
            tapeIsUsedUp("card", x);
        }
    }

    private static void cardOfMoreThanFortyEight() {
        for (int length : new int[] {49, 50, 399, 400}) {
            Hand hand = new Hand(CHECK);
            hand.tape(new byte[] {5, 6});
            hand.house.card(3, 3);
            hand.tape(new byte[length]);
            CHECK.due("card of " + length, hand.house.card(3, 3), false);
            CHECK.due("the row stays", hand.house.size(3, 3), 2);
            CHECK.due("the row stays", hand.house.at(3, 3, 1), 6);
            tapeIsUsedUp("card that is refused", hand.house);
        }
    }

    private static void cardOfNoSuchCardOrPlace() {
        for (int c : NO_CARDS) {
            cardIsRefused(c, 0);
            cardIsRefused(c, 3);
        }
        for (int place : NO_PLACES) {
            cardIsRefused(0, place);
            cardIsRefused(15, place);
        }
    }

    private static void cardIsRefused(int c, int place) {
        StationHouse x = taped(7);
        CHECK.due("card(" + c + ", " + place + ")", x.card(c, place), false);
        tapeIsUsedUp("card(" + c + ", " + place + ")", x);
        for (int i = 0; i < 64; i++) {
            CHECK.due("no row came", x.size(i / 4, i % 4), 0);
        }
    }

    private static void eachCardAndPlaceHasItsOwnRow() {
        Hand hand = new Hand(CHECK);
        for (int i = 0; i < 64; i++) {
            hand.tape(new byte[] {(byte) (100 + i)});
            CHECK.due("card", hand.house.card(i / 4, i % 4), true);
        }
        for (int i = 0; i < 64; i++) {
            CHECK.due("size(" + i / 4 + ", " + i % 4 + ")", hand.house.size(i / 4, i % 4), 1);
            CHECK.due("at(" + i / 4 + ", " + i % 4 + ", 0)", hand.house.at(i / 4, i % 4, 0), 100 + i);
        }
    }

    private static void diskOfAnEmptyTape() {
        StationHouse x = new StationHouse();
        CHECK.due("disk() of nothing", x.disk(), 0);
        CHECK.due("it has no byte", x.diskAt(0), -1);
        CHECK.due("but is there: a look sees it", x.poll(), 1);
        CHECK.due("it is no enrolment", x.record(0, 8), 41);
        CHECK.due("and it goes", x.noDisk(), true);
    }

    private static void diskOfAFullTape() {
        StationHouse x = taped(400);
        tapeHas("a full tape", x, 400);
        tapeIsUsedUp("disk", x);
    }

    private static void diskTakesThePlaceOfAnother() {
        Hand hand = new Hand(CHECK);
        hand.disk(new byte[] {1, 2, 3});
        hand.disk(new byte[] {9});
        CHECK.due("the later one", hand.house.diskAt(0), 9);
        CHECK.due("nothing of the first", hand.house.diskAt(1), -1);
        CHECK.due("an empty one in its place", hand.house.disk(), 0);
        CHECK.due("nothing of the second", hand.house.diskAt(0), -1);
        CHECK.due("one goes", hand.house.noDisk(), true);
        CHECK.due("no other is behind it", hand.house.noDisk(), false);
    }

    private static void noDiskTellsWhetherThereWasOne() {
        StationHouse x = taped(2);
        CHECK.due("none at first", x.noDisk(), false);
        CHECK.due("noDisk() leaves the tape", x.disk(), 2);
        CHECK.due("there was one", x.noDisk(), true);
        CHECK.due("then none", x.noDisk(), false);
        CHECK.due("its bytes are gone", x.diskAt(0), -1);
        CHECK.due("a look sees none", x.poll(), 0);
    }

    private static StationHouse withRows() {
        Hand hand = new Hand(CHECK);
        for (int i = 0; i < 64; i++) {
            hand.tape(new byte[] {(byte) i, 2, 3});
            hand.house.card(i / 4, i % 4);
        }
        return hand.house;
    }

    private static void sizeOfNone() {
        StationHouse x = withRows();
        for (int c : NO_CARDS) {
            CHECK.due("size(" + c + ", 0)", x.size(c, 0), -1);
        }
        for (int place : NO_PLACES) {
            CHECK.due("size(0, " + place + ")", x.size(0, place), -1);
            CHECK.due("size(15, " + place + ")", x.size(15, place), -1);
        }
        CHECK.due("size(15, 3)", x.size(15, 3), 3);
        CHECK.due("size(0, 0)", x.size(0, 0), 3);
    }

    private static void atOfNone() {
        StationHouse x = withRows();
        for (int c : NO_CARDS) {
            CHECK.due("at(" + c + ", 0, 0)", x.at(c, 0, 0), -1);
        }
        for (int place : NO_PLACES) {
            CHECK.due("at(0, " + place + ", 0)", x.at(0, place, 0), -1);
            CHECK.due("at(15, " + place + ", 0)", x.at(15, place, 0), -1);
        }
        for (int i : new int[] {LEAST, -1, 3, 4, 47, 48, MOST}) {
            CHECK.due("at(15, 3, " + i + ")", x.at(15, 3, i), -1);
        }
        CHECK.due("at(15, 3, 0)", x.at(15, 3, 0), 63);
        CHECK.due("at(15, 3, 2)", x.at(15, 3, 2), 3);
    }

    private static void diskAtOfNone() {
        StationHouse x = taped(400);
        for (int i : new int[] {LEAST, -1, 0, 399, 400, MOST}) {
            CHECK.due("diskAt(" + i + ") without one", x.diskAt(i), -1);
        }
        x.disk();
        for (int i : new int[] {LEAST, -400, -1, 400, 401, 512, MOST}) {
            CHECK.due("diskAt(" + i + ") of 400", x.diskAt(i), -1);
        }
        CHECK.due("diskAt(399) of 400", x.diskAt(399), valueAt(399) & 255);
    }
}
