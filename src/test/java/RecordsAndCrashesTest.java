/** Promises 14, 15 and 17, parts 3 and 7 of the terms: blocks that go, the records' alarm, crashes. */
final class RecordsAndCrashesTest {
    private static final Check CHECK = new Check();

    public static void main(String[] args) {
        oldestBlockGoes();
        alarmEndsByClearing();
        archiveLosesItsRecords();
        clearingWhenABlockGoes();
        cutBehindEachRecord();
        cutInAnAct();
        cutOfRecordlessLooks();
        cutWhenABlockGoes();
        cutKeepsWhatIsKept();
        CHECK.end();
    }

    private static Hand enrolled() {
        Hand hand = new Hand(CHECK);
        hand.enrol();
        return hand;
    }

    private static Hand full() {
        Hand h = new Hand(CHECK);
        h.fillTo(96);
        CHECK.due("96 records", h.house.show(9), 96);
        CHECK.due("no alarm yet", h.house.show(2), 0);
        return h;
    }

    private static void oldestBlockGoes() {
        Hand h = full();
        h.house.poll();
        h.house.door(true);
        h.look("a block goes", 30, 20, 24);
        CHECK.due("91 records", h.house.show(9), 91);
        CHECK.due("alarm", h.house.show(2), 1);
        CHECK.due("oldest number", h.number(0, 0, 4), 9);
        CHECK.due("30's number", h.number(88, 0, 4), 97);
        CHECK.due("30 is critical", h.house.record(88, 9), 2);
        CHECK.due("30 has no card", h.house.record(88, 10), 255);
        CHECK.due("next number", h.house.show(10), 100);
    }

    /** Archives once; the role is a keeper's. */
    private static void archive(Hand h, String what) {
        h.press(1);
        h.look(what, 56);
        h.look(what, 57);
    }

    private static Hand fullWithKeeper() {
        Hand h = full();
        h.disk(Hand.enrolment());
        h.look("enrols when a block goes", 30, 40);
        h.takeRole(2, 2);
        h.disk(new byte[0]);
        CHECK.due("92 records", h.house.show(9), 92);
        CHECK.due("alarm", h.house.show(2), 1);
        return h;
    }

    /** So many records are left when 24 are cleared while the alarm is on. */
    private static void alarmEndsByClearing() {
        for (int left = 65; left >= 63; left--) {
            Hand h = fullWithKeeper();
            archive(h, "first");
            CHECK.due("71 are left", h.house.show(9), 71);
            CHECK.due("alarm stays", h.house.show(2), 1);
            for (int i = 0; i < left - 50; i++) {
                h.house.key(2);
                h.look("a keeper's bad request", 55);
            }
            archive(h, "second");
            CHECK.due("records left", h.house.show(9), left);
            CHECK.due("alarm with " + left, h.house.show(2), left < 64 ? 0 : 1);
        }
    }

    private static Hand archiveOnFullRecords() {
        Hand h = fullWithKeeper();
        h.house.door(true);
        h.house.key(1);
        h.look("key", 20, 24, 51);
        h.look("writes", 56);
        CHECK.due("96 records", h.house.show(9), 96);
        return h;
    }

    private static void archiveLosesItsRecords() {
        Hand h = archiveOnFullRecords();
        h.house.door(false);
        h.look("the oldest are others by then", 30, 21, 25, 58);
        h.inside("the oldest are others by then", 2, 11, 2);
        CHECK.due("nothing is cleared", h.house.show(9), 92);
    }

    private static void clearingWhenABlockGoes() {
        Hand h = archiveOnFullRecords();
        long oldest = h.number(0, 0, 4);
        h.look("a block goes with 57", 30, 57);
        CHECK.due("those still there are cleared", h.house.show(9), 96 + 2 - 24);
        CHECK.due("oldest", h.number(0, 0, 4), oldest + 24);
        CHECK.due("alarm stays", h.house.show(2), 1);
        Hand g = archiveOnFullRecords();
        g.house.cutAt(1);
        g.cutLook("cut behind the 30", -3, 30, 70);
        CHECK.due("nothing is cleared", g.house.show(9), 90);
    }

    private static Hand twoDoorRecordsAndAnAct() {
        Hand h = enrolled();
        h.soundCard(1, 0, 0);
        h.house.put(0, 1);
        h.house.door(true);
        return h;
    }

    private static void cutBehindEachRecord() {
        int[][] put = {{70}, {20, 70}, {20, 24, 70}, {20, 24, 2, 70}, {20, 24, 2, 70}};
        for (int k = 0; k < put.length; k++) {
            Hand h = twoDoorRecordsAndAnAct();
            h.house.cutAt(k);
            h.cutLook("cut at " + k, -2 - (put[k].length - 1), put[k]);
            h.lastTells("start", 1, 255, 0);
            h.outside("start", 0, 1);
            h.inside("start", 2, 1, -1);
            CHECK.due("door's alarm is off", h.house.show(1), 0);
            h.look("the door counts as seen, the alarm begins", 24, 2);
        }
    }

    private static void cutInAnAct() {
        for (int k = 0; k <= 3; k++) {
            Hand h = enrolled();
            h.soundCard(1, 2, 1);
            h.house.put(0, 1);
            h.house.finger(5);
            for (int i = 0; i < 4; i++) {
                h.house.poll();
            }
            h.outside("writes", 4, 3);
            h.house.cutAt(k);
            h.house.poll();
            CHECK.due("pass is there with its record", h.house.size(1, 3), k == 0 ? 0 : 39);
            CHECK.due("serial is used with its record", h.house.show(11), k == 0 ? 1 : 2);
        }
        for (int k = 0; k <= 3; k++) {
            Hand h = enrolled();
            h.takeRole(2, 1);
            h.press(3);
            h.house.cutAt(k);
            int[][] put = {{70}, {61, 70}, {61, 22, 70}, {61, 22, 70}};
            h.cutLook("unlock", -2 - Math.min(k, 2), put[k]);
            CHECK.due("latch is locked by the start", h.house.show(0), 0);
            h.look("the card is seen anew", 42);
        }
        for (int k = 0; k <= 1; k++) {
            Hand h = enrolled();
            h.takeRole(2, 3);
            h.house.key(2);
            h.disk(Hand.settings(1, 2, 3, 4, 5, 1, 7, 8, 9));
            h.house.cutAt(k);
            h.house.poll();
            h.look("card", 42);
            h.look("role", 44);
            if (k == 0) {
                h.look("the key is still pressed", 52);
            } else {
                h.look("the key was taken");
                h.press(2);
            }
            h.house.cutAt(k);
            h.house.poll();
            CHECK.due("settings are had with their record", h.house.show(14), k == 0 ? 15 : 1);
        }
    }

    private static void cutOfRecordlessLooks() {
        Hand h = new Hand(CHECK);
        h.disk(new byte[2]);
        h.house.cutAt(1);
        h.cutLook("bad enrolment cut off", -3, 41);
        h.inside("not enrolled", 0, 8, -1);
        h.outside("not enrolled", 0, 0);
        h.look("the disk is seen again", 41);
        h.house.noDisk();
        h.disk(Hand.enrolment());
        h.look("bad one has to go");
        h.house.noDisk();
        h.look("goes");
        h.disk(Hand.enrolment());
        h.house.cutAt(0);
        h.cutLook("cut before enrolment", -2);
        CHECK.due("keys", h.house.show(13), 0);
        h.house.cutAt(1);
        h.cutLook("cut behind enrolment's record", -3, 40, 70);
        CHECK.due("keys", h.house.show(13), 2);
        h.inside("enrolled", 2, 1, -1);
        h.outside("enrolled", 0, 1);
        h.house.cutAt(5);
        h.cutLook("at its end", -2, 70);
    }

    private static void cutWhenABlockGoes() {
        Hand h = full();
        h.disk(Hand.enrolment());
        h.house.cutAt(1);
        h.cutLook("30 counts", -3, 30);
        CHECK.due("not enrolled", h.house.show(13), 0);
        CHECK.due("89 records", h.house.show(9), 89);
        CHECK.due("alarm stays", h.house.show(2), 1);
        Hand g = full();
        g.disk(Hand.enrolment());
        g.house.cutAt(2);
        g.cutLook("both are put", -4, 30, 40, 70);
        Hand f = enrolled();
        f.fillTo(96);
        f.house.poll();
        while (f.house.show(9) < 96) {
            f.house.cutAt(0);
            f.house.poll();
        }
        f.house.cutAt(0);
        f.cutLook("a 30 that 70 brings is not counted", -2, 30, 70);
    }

    private static void cutKeepsWhatIsKept() {
        Hand h = enrolled();
        h.takeRole(2, 2);
        h.press(1);
        h.disk(new byte[9]);
        h.house.cutAt(0);
        h.house.poll();
        CHECK.due("disk as it was", h.house.diskAt(8), 0);
        CHECK.due("disk as it was", h.house.diskAt(9), -1);
        h.look("card", 42);
        h.look("role", 44);
        h.press(1);
        h.house.cutAt(1);
        h.cutLook("archive is written with its record", -3, 56, 70);
        CHECK.due("disk", h.house.diskAt(0), 82);
        h.look("card", 42);
        h.look("role", 44);
        h.press(1);
        h.look("writes", 56);
        int count = h.house.show(9);
        h.house.cutAt(1);
        h.cutLook("clears with its record", -3, 57, 70);
        CHECK.due("cleared", h.house.show(9), 2);
        CHECK.due("there were more", count > 10, true);
    }
}
