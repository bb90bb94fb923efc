/** The edges of promise 17, record, and of part 3 of the terms: numbers, blocks that go, the records' alarm. */
final class RecordEdgesTest {
    private static final int LEAST = Integer.MIN_VALUE;
    private static final int MOST = Integer.MAX_VALUE;
    private static final Check CHECK = new Check();

    public static void main(String[] args) {
        recordOfNone();
        recordsOfAFullHouse();
        sixteenBytesOfARecord();
        numbersFromOneOn();
        ninetySixAreKept();
        oldestBlockGoesWithTheNextOne();
        blockGoesInTheMidstOfALook();
        blockGoesInTheMidstOfAnAct();
        blockGoesAgainWhenItIsFullAgain();
        numbersGoOnThroughCrashes();
        alarmStaysWhileNothingIsCleared();
        alarmEndsBelowSixtyFour();
        alarmNeverBeginsByClearing();
        clearedRecordsMakeRoom();
        CHECK.end();
    }

    private static void recordOfNone() {
        Hand h = new Hand(CHECK);
        for (int i : new int[] {LEAST, -1, 0, 1, 95, 96, MOST}) {
            CHECK.due("record(" + i + ", 0) of none", h.house.record(i, 0), -1);
        }
        h.house.door(true);
        h.look("two records", 20, 24);
        for (int i : new int[] {LEAST, -16, -1, 2, 3, 95, 96, 0x10000000, MOST}) {
            for (int k : new int[] {0, 8, 15}) {
                CHECK.due("record(" + i + ", " + k + ") of two", h.house.record(i, k), -1);
            }
        }
        for (int k : new int[] {LEAST, -16, -1, 16, 17, 24, MOST}) {
            CHECK.due("record(0, " + k + ")", h.house.record(0, k), -1);
            CHECK.due("record(1, " + k + ")", h.house.record(1, k), -1);
        }
        CHECK.due("record(0, 0)", h.house.record(0, 0), 0);
        CHECK.due("record(1, 15)", h.house.record(1, 15), 0);
    }

    private static void recordsOfAFullHouse() {
        Hand h = Hand.enrolled(CHECK);
        h.fillJust(96);
        CHECK.due("the last one's number", h.house.record(95, 3), 96);
        CHECK.due("its last byte", h.house.record(95, 15), 0);
        CHECK.due("none behind it", h.house.record(96, 0), -1);
    }

    private static void sixteenBytesOfARecord() {
        Hand h = Hand.enrolled(CHECK);
        h.sealedRow(13, 0, Hand.head(Hand.WHO, Hand.OTHER, 0x81020384, 0, 0, 0, -1).add(7, 4).bytes(), Hand.OTHER_KEY);
        for (int i = 0; i < 200; i++) {
            h.house.tick(100000);
        }
        h.house.tick(0x7f);
        h.house.put(0, 13);
        h.look("card", 2);
        h.look("not sound", 5);
        // 20000000 and 127 ticks are 0x01312d7f.
        int[] due = {0, 0, 0, 3, 0x01, 0x31, 0x2d, 0x7f, 5, 1, 13, 0, 0x81, 2, 3, 0x84, -1};
        for (int k = 0; k < due.length; k++) {
            CHECK.due("record(2, " + k + ")", h.house.record(2, k), due[k]);
        }
    }

    private static void numbersAre(String what, Hand h, int first) {
        int count = h.house.show(9);
        for (int i = 0; i < count; i++) {
            CHECK.due(what + ": number of " + i, h.number(i, 0, 4), first + i);
        }
        CHECK.due(what + ": next number", h.house.show(10), first + count);
    }

    private static void numbersFromOneOn() {
        Hand h = new Hand(CHECK);
        CHECK.due("next number", h.house.show(10), 1);
        h.fillTo(20);
        numbersAre("twenty", h, 1);
    }

    private static void ninetySixAreKept() {
        Hand h = Hand.enrolled(CHECK);
        h.fillJust(95);
        h.house.put(0, 1);
        h.look("the 96th", 2);
        CHECK.due("records", h.house.show(9), 96);
        CHECK.due("no alarm", h.house.show(2), 0);
        numbersAre("ninety-six", h, 1);
    }

    private static void oldestBlockGoesWithTheNextOne() {
        Hand h = Hand.enrolled(CHECK);
        h.fillJust(96);
        CHECK.due("no alarm", h.house.show(2), 0);
        h.soundCard(1, 0, 0);
        h.house.tick(0x20304);
        h.house.put(0, 1);
        h.look("the 97th", 30, 2);
        h.tells("30", 1, 2, 255, 0);
        h.tells("2", 0, 0, 1, 51);
        CHECK.due("records", h.house.show(9), 90);
        CHECK.due("alarm", h.house.show(2), 1);
        numbersAre("eight are gone", h, 9);
    }

    private static void blockGoesInTheMidstOfALook() {
        Hand h = Hand.enrolled(CHECK);
        h.fillJust(95);
        h.house.put(0, 1);
        h.house.door(true);
        h.look("before its second record", 20, 30, 24, 2);
        CHECK.due("records", h.house.show(9), 91);
        CHECK.due("alarm", h.house.show(2), 1);
        Hand g = Hand.enrolled(CHECK);
        g.fillJust(94);
        g.house.put(0, 1);
        g.house.door(true);
        g.look("before its third record", 20, 24, 30, 2);
        Hand f = Hand.enrolled(CHECK);
        f.fillJust(93);
        f.house.put(0, 1);
        f.house.door(true);
        f.look("three find room", 20, 24, 2);
        CHECK.due("no alarm", f.house.show(2), 0);
        CHECK.due("records", f.house.show(9), 96);
    }

    private static void blockGoesInTheMidstOfAnAct() {
        Hand h = Hand.enrolled(CHECK);
        h.fillJust(92);
        h.comeWithPass(1);
        h.house.put(0, -1);
        h.look("between 14 and 22", 14, 30, 22);
        h.tells("14", 2, 0, 1, 51);
        h.tells("30", 1, 2, 255, 0);
        h.tells("22", 0, 0, 1, 51);
        CHECK.due("the latch opens all the same", h.house.show(0), 1);
    }

    private static void blockGoesAgainWhenItIsFullAgain() {
        Hand h = Hand.enrolled(CHECK);
        h.fillJust(96);
        for (int round = 1; round <= 3; round++) {
            h.house.door(true);
            h.look("a block goes", 30, 20, 24);
            CHECK.due("records", h.house.show(9), 91);
            h.house.door(false);
            h.look("two more", 21, 25);
            h.house.put(0, 1);
            h.look("one more", 2);
            h.look("one more", 5);
            h.house.put(0, -1);
            h.look("one more", 16);
            CHECK.due("records", h.house.show(9), 96);
            CHECK.due("alarm", h.house.show(2), 1);
            numbersAre("round " + round, h, 8 * round + 1);
        }
    }

    private static void numbersGoOnThroughCrashes() {
        Hand h = Hand.enrolled(CHECK);
        for (int i = 2; i <= 6; i++) {
            h.house.cutAt(i);
            h.cutLook("crash", -2, 70);
            h.lastTells("crash", 1, 255, 0);
            CHECK.due("next number", h.house.show(10), i + 1);
        }
        numbersAre("crashes", h, 1);
    }

    /** A keeper with a disk is there, and a block went: so many records and the alarm. */
    private static Hand alarmed(int records) {
        Hand h = Hand.enrolled(CHECK);
        h.fillJust(96);
        h.takeRoleOfFull(2, 2);
        h.disk(new byte[0]);
        for (int i = h.house.show(9); i < records; i++) {
            h.house.key(2);
            h.look("a record more", 55);
        }
        CHECK.due("records", h.house.show(9), records);
        CHECK.due("alarm", h.house.show(2), 1);
        return h;
    }

    private static void archive(Hand h) {
        h.press(1);
        h.look("writes", 56);
        h.look("clears", 57);
    }

    private static void alarmStaysWhileNothingIsCleared() {
        Hand h = alarmed(91);
        h.press(1);
        h.look("writes", 56);
        h.house.noDisk();
        h.look("does not clear", 58);
        CHECK.due("alarm", h.house.show(2), 1);
        h.house.cutAt(0);
        h.cutLook("crash", -2, 70);
        CHECK.due("it survives a crash", h.house.show(2), 1);
    }

    private static void alarmEndsBelowSixtyFour() {
        for (int left : new int[] {62, 63, 64, 65}) {
            Hand h = alarmed(91);
            archive(h);
            CHECK.due("70 are left", h.house.show(9), 91 + 3 - 24);
            CHECK.due("alarm with 70", h.house.show(2), 1);
            for (int i = h.house.show(9); i < left + 24 - 3; i++) {
                h.house.key(2);
                h.look("a record more", 55);
            }
            archive(h);
            CHECK.due("records left", h.house.show(9), left);
            CHECK.due("alarm with " + left, h.house.show(2), left < 64 ? 0 : 1);
            h.look("a look more");
            CHECK.due("alarm with " + left, h.house.show(2), left < 64 ? 0 : 1);
        }
    }

    private static void alarmNeverBeginsByClearing() {
        Hand h = Hand.enrolled(CHECK);
        h.fillJust(89);
        h.takeRole(2, 2);
        h.disk(new byte[0]);
        archive(h);
        CHECK.due("records left", h.house.show(9), 94 - 24);
        CHECK.due("no alarm", h.house.show(2), 0);
    }

    /** The others close up: 96 find room again, however many went. */
    private static void clearedRecordsMakeRoom() {
        Hand h = Hand.enrolled(CHECK);
        h.fillJust(5);
        h.takeRole(2, 2);
        h.disk(new byte[0]);
        archive(h);
        CHECK.due("9 of 10 are cleared", h.house.show(9), 1);
        h.leave();
        h.fillJust(96);
        CHECK.due("no alarm", h.house.show(2), 0);
        numbersAre("closed up", h, 10);
        h.house.put(0, 1);
        h.look("the 97th", 30, 2);
        numbersAre("a block went", h, 18);
    }
}
