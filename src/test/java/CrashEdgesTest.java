import java.util.Arrays;

/** The edges of promises 14 cutAt and 15 poll, and of part 7 of the terms, crashes. */
final class CrashEdgesTest {
    private static final int[] LONGEST = {30, 20, 23, 24, 14, 22, 25};
    private static final Check CHECK = new Check();

    public static void main(String[] args) {
        answerOfALookThatIsNotCutOff();
        longestLookCutBehindEachRecord();
        longestLookCutAtItsEnd();
        cutOfALookThatPutsNothing();
        cutOfNoneBeforeEnrolment();
        cutIsForOneLook();
        cutBehindZeroTakesWhatIsSeen();
        startTellsNoCard();
        startOfEachStateOutside();
        startOfEachStateInside();
        startOfABadEnrolment();
        startLocksTheLatchWithoutARecord();
        startEndsTheSilence();
        startEndsTheAlarmOfTheDoor();
        startBeforeEnrolmentEndsTheAlarm();
        thirtyOfAStartIsNotCounted();
        thirtyCountsInALook();
        cutBetweenThirtyAndItsRecord();
        cutBetweenThirtyAndAnActsRecord();
        enrolmentWithItsRecord();
        passWithItsRecord();
        passThatIsNotWritten();
        settingsWithTheirRecord();
        keyWithItsRecord();
        archiveWithItsRecord();
        clearingWithItsRecord();
        latchWithBothItsRecords();
        shutWithBothItsRecords();
        keysSettingsAndSerialsStay();
        whatIsSeenStays();
        CHECK.end();
    }

    /** Quiet and locked, as a house is behind a start; enrolled or not. */
    private static void hasStarted(String what, Hand h, boolean enrolled) {
        CHECK.due(what + ": latch", h.house.show(0), 0);
        CHECK.due(what + ": door's alarm", h.house.show(1), 0);
        h.outside(what, 0, enrolled ? 1 : 0);
        h.inside(what, enrolled ? 2 : 0, enrolled ? 1 : 8, -1);
    }

    private static int[] with70(int[] records, int count) {
        int[] put = Arrays.copyOf(records, count + 1);
        put[count] = 70;
        return put;
    }

    /** Cuts off a look that would put these records, behind so many. */
    private static void cutLook(String what, Hand h, int k, int... records) {
        int put = Math.min(k, records.length);
        CHECK.due("cutAt(" + k + ")", h.house.cutAt(k), true);
        h.cutLook(what + ", cut behind " + k, -2 - put, with70(records, put));
        hasStarted(what + ", cut behind " + k, h, true);
    }

    private static void answerOfALookThatIsNotCutOff() {
        Hand h = beforeTheLongestLook();
        h.look("the longest look", LONGEST);
        Hand g = Hand.enrolled(CHECK);
        g.look("the shortest one");
    }

    /** Full records, an open latch that is due to lock, a door that opened, and a card that was removed well. */
    private static Hand beforeTheLongestLook() {
        Hand h = Hand.enrolled(CHECK);
        h.fillJust(88);
        h.openLatch(1);
        h.comeWithPass(1);
        h.house.tick(25);
        h.house.door(true);
        h.house.put(0, -1);
        CHECK.due("96 records", h.house.show(9), 96);
        return h;
    }

    private static void longestLookCutBehindEachRecord() {
        for (int k = 0; k < LONGEST.length; k++) {
            Hand h = beforeTheLongestLook();
            h.house.cutAt(k);
            int[] due = k == 0 ? new int[] {30, 70} : with70(LONGEST, k);
            h.cutLook("cut behind " + k, -2 - k, due);
            hasStarted("cut behind " + k, h, true);
            h.look("the door counts as seen and may not be open", 24);
        }
    }

    private static void longestLookCutAtItsEnd() {
        for (int k = LONGEST.length; k <= 10; k++) {
            Hand h = beforeTheLongestLook();
            h.house.cutAt(k);
            h.cutLook("cut at its end", -2 - LONGEST.length, with70(LONGEST, LONGEST.length));
            hasStarted("cut at its end", h, true);
            h.look("the latch that opened is locked; the records are full again", 30, 24);
        }
    }

    private static void cutOfALookThatPutsNothing() {
        for (int k = 0; k <= 10; k++) {
            cutLook("nothing to do", Hand.enrolled(CHECK), k);
        }
    }

    private static void cutOfNoneBeforeEnrolment() {
        for (int k = 0; k <= 10; k++) {
            Hand h = new Hand(CHECK);
            h.house.cutAt(k);
            h.cutLook("no record of a start", -2);
            CHECK.due("no record", h.house.show(9), 0);
            hasStarted("not enrolled", h, false);
            h.house.door(true);
            h.house.cutAt(k);
            int[] due = {20, 24};
            h.cutLook("no record of a start", -2 - Math.min(k, 2), Arrays.copyOf(due, Math.min(k, 2)));
            hasStarted("not enrolled", h, false);
        }
    }

    private static void cutIsForOneLook() {
        Hand h = Hand.enrolled(CHECK);
        cutLook("once", h, 5);
        h.house.door(true);
        h.look("not again", 20, 24);
    }

    private static void cutBehindZeroTakesWhatIsSeen() {
        Hand h = Hand.enrolled(CHECK);
        h.house.door(true);
        h.house.put(0, 3);
        h.house.put(1, 4);
        cutLook("behind none", h, 0, 20, 24, 42);
        h.look("the door is not told any more", 24, 42);
        Hand g = new Hand(CHECK);
        g.house.door(true);
        g.house.cutAt(0);
        g.cutLook("not enrolled, behind none", -2);
        g.look("the door is not told any more", 24);
    }

    private static void startTellsNoCard() {
        Hand h = Hand.enrolled(CHECK);
        h.soundCard(1, 0, 0);
        h.comeTo(2, 1);
        h.house.finger(-1);
        h.takeRole(2, 1);
        h.house.tick(19);
        cutLook("start", h, 0);
        h.lastTells("start", 1, 255, 0);
    }

    private static void startOfEachStateOutside() {
        for (int state = 0; state <= 7; state++) {
            Hand h = Hand.enrolled(CHECK);
            h.soundCard(1, 0, 0);
            if (state > 0) {
                h.comeTo(Math.min(state, 6), 1);
            }
            if (state == 7) {
                h.house.tick(11);
                h.look("stayed too long", 15);
            }
            h.house.cutAt(0);
            h.cutLook("state " + state, -2, 70);
            hasStarted("state " + state, h, true);
            if (state == 0) {
                h.look("nobody");
            } else {
                h.look("the card is seen anew", 2);
                h.look("and looked at anew", state >= 5 ? 3 : 4);
            }
        }
    }

    private static void startOfEachStateInside() {
        for (int state = 2; state <= 7; state++) {
            Hand h = Hand.enrolled(CHECK);
            int role = state == 7 ? 3 : 2;
            h.soundCard(2, role, 0);
            h.pass(2, state == 4 ? 0 : role, 0, Hand.LATE);
            h.house.put(1, 2);
            h.look("card", 42);
            if (state != 3) {
                h.look("role", state == 4 ? 45 : 44);
            }
            if (state >= 5) {
                h.press(state == 7 ? 4 : 1);
            }
            if (state >= 6) {
                h.disk(new byte[0]);
                h.look("goes on", state == 7 ? 62 : 56);
            }
            CHECK.due("state", h.house.show(6), state);
            h.house.cutAt(0);
            h.cutLook("state " + state, -2, 70);
            hasStarted("state " + state, h, true);
            h.look("the card is seen anew", 42);
            h.look("and looked at anew", state == 4 ? 45 : 44);
            h.look("nothing is left of a request");
        }
    }

    private static void startOfABadEnrolment() {
        Hand h = new Hand(CHECK);
        h.disk(new byte[3]);
        h.look("bad", 41);
        h.house.cutAt(0);
        h.cutLook("crash", -2);
        hasStarted("not enrolled", h, false);
        h.look("the disk is read anew", 41);
        h.house.noDisk();
        h.house.cutAt(1);
        h.cutLook("crash in the look that sees none", -2);
        hasStarted("not enrolled", h, false);
    }

    private static void startLocksTheLatchWithoutARecord() {
        Hand h = Hand.enrolled(CHECK);
        h.openLatch(1);
        cutLook("open latch", h, 0);
        h.house.tick(100);
        h.look("no 23 comes later");
    }

    private static void startEndsTheSilence() {
        Hand h = Hand.enrolled(CHECK);
        h.openLatch(1);
        h.house.door(true);
        h.look("door", 20);
        cutLook("open door", h, 0);
        h.look("it may not be open from now on", 24);
    }

    private static void startEndsTheAlarmOfTheDoor() {
        Hand h = Hand.enrolled(CHECK);
        h.house.door(true);
        h.look("alarm", 20, 24);
        cutLook("alarm", h, 0);
        h.look("it begins anew", 24);
        cutLook("alarm", h, 0);
        h.house.door(false);
        h.look("closed: there is no alarm to end", 21);
    }

    private static void startBeforeEnrolmentEndsTheAlarm() {
        Hand h = new Hand(CHECK);
        h.house.door(true);
        h.look("alarm", 20, 24);
        h.house.cutAt(0);
        h.cutLook("crash", -2);
        hasStarted("not enrolled", h, false);
        h.look("it begins anew", 24);
    }

    private static void thirtyOfAStartIsNotCounted() {
        Hand h = Hand.enrolled(CHECK);
        h.fillJust(96);
        h.house.cutAt(0);
        h.cutLook("70 is the 97th", -2, 30, 70);
        h.tells("30", 1, 2, 255, 0);
        h.tells("70", 0, 1, 255, 0);
        CHECK.due("records", h.house.show(9), 90);
        CHECK.due("records' alarm", h.house.show(2), 1);
        Hand g = Hand.enrolled(CHECK);
        g.fillJust(95);
        g.house.put(0, 1);
        g.house.cutAt(1);
        g.cutLook("a look's record is the 96th", -3, 2, 30, 70);
        Hand f = Hand.enrolled(CHECK);
        f.fillJust(95);
        f.house.cutAt(0);
        f.cutLook("70 is the 96th", -2, 70);
        CHECK.due("no alarm", f.house.show(2), 0);
    }

    private static void thirtyCountsInALook() {
        Hand h = Hand.enrolled(CHECK);
        h.fillJust(96);
        h.house.put(0, 1);
        h.house.cutAt(2);
        h.cutLook("behind 30 and its record", -4, 30, 2, 70);
        CHECK.due("records", h.house.show(9), 91);
    }

    private static void cutBetweenThirtyAndItsRecord() {
        Hand h = Hand.enrolled(CHECK);
        h.fillJust(96);
        h.house.put(0, 1);
        h.house.cutAt(1);
        h.cutLook("behind 30", -3, 30, 70);
        CHECK.due("the block went", h.number(0, 0, 4), 9);
        CHECK.due("records", h.house.show(9), 90);
        CHECK.due("records' alarm", h.house.show(2), 1);
        hasStarted("behind 30", h, true);
        h.look("the card comes then", 2);
    }

    /** The act is not done at all, though its 30 was put. */
    private static void cutBetweenThirtyAndAnActsRecord() {
        Hand pass = Hand.enrolled(CHECK);
        pass.fillJust(92);
        pass.soundCard(1, 0, 0);
        pass.comeTo(4, 1);
        pass.house.cutAt(1);
        pass.cutLook("pass", -3, 30, 70);
        CHECK.due("no pass", pass.house.size(1, 3), 0);
        CHECK.due("next serial", pass.house.show(11), 1);
        Hand settings = Hand.enrolled(CHECK);
        settings.fillJust(93);
        settings.takeRole(2, 3);
        settings.press(2);
        settings.disk(Hand.settings(1, 2, 3, 4, 5, 1, 6, 7, 8));
        settings.house.cutAt(1);
        settings.cutLook("settings", -3, 30, 70);
        CHECK.due("unlocked", settings.house.show(14), 15);
        Hand key = Hand.enrolled(CHECK);
        key.fillJust(94);
        key.takeRole(2, 1);
        key.house.key(3);
        key.house.cutAt(1);
        key.cutLook("key", -3, 30, 70);
        key.look("card", 42);
        key.look("role", 44);
        key.look("the key is pressed still", 53);
        Hand enrolment = new Hand(CHECK);
        enrolment.fillTo(96);
        enrolment.disk(Hand.enrolment());
        enrolment.house.cutAt(1);
        enrolment.cutLook("enrolment", -3, 30);
        CHECK.due("keys", enrolment.house.show(13), 0);
        hasStarted("enrolment", enrolment, false);
    }

    private static void enrolmentWithItsRecord() {
        for (int k = 0; k <= 2; k++) {
            Hand h = new Hand(CHECK);
            h.disk(Hand.enrolment());
            h.house.cutAt(k);
            if (k == 0) {
                h.cutLook("before 40", -2);
            } else {
                h.cutLook("behind 40", -3, 40, 70);
            }
            hasStarted("enrolment, " + k, h, k > 0);
            CHECK.due("keys", h.house.show(13), k > 0 ? 2 : 0);
            CHECK.due("own issuer", h.house.show(12), k > 0 ? Hand.OWN : -1);
            h.look("behind it", k > 0 ? new int[0] : new int[] {40});
        }
    }

    private static void passWithItsRecord() {
        for (int k = 0; k <= 2; k++) {
            Hand h = Hand.enrolled(CHECK);
            h.soundCard(1, 0, 0);
            h.comeTo(4, 1);
            cutLook("pass", h, k, 10);
            CHECK.due("pass", h.house.size(1, 3), k > 0 ? 39 : 0);
            CHECK.due("next serial", h.house.show(11), k > 0 ? 2 : 1);
            h.look("card", 2);
            h.look("its pass", k > 0 ? 3 : 4);
        }
    }

    private static void passThatIsNotWritten() {
        Hand h = Hand.enrolled(CHECK);
        h.soundCard(1, 0, 0);
        h.comeTo(4, 1);
        h.house.writable(1, false);
        cutLook("no pass", h, 1, 11);
        CHECK.due("no pass", h.house.size(1, 3), 0);
        CHECK.due("next serial", h.house.show(11), 1);
    }

    private static void settingsWithTheirRecord() {
        for (int k = 0; k <= 2; k++) {
            Hand h = Hand.enrolled(CHECK);
            h.takeRole(2, 3);
            h.press(2);
            h.disk(Hand.settings(1, 2, 3, 4, 5, 1, 6, 7, 8));
            cutLook("settings", h, k, 59);
            int[] due = k > 0 ? new int[] {1, 2, 3, 4, 5, 1, 6, 7, 8} : new int[] {15, 10, 20, 10, 200, 0, 12, 0, 999};
            for (int i = 0; i < 9; i++) {
                CHECK.due("setting " + i, h.house.show(14 + i), due[i]);
            }
        }
    }

    private static void keyWithItsRecord() {
        for (int key : new int[] {3, 1}) {
            for (int k = 0; k <= 2; k++) {
                Hand h = Hand.enrolled(CHECK);
                h.takeRole(2, 1);
                h.house.key(key);
                int record = key == 3 ? 53 : 55;
                cutLook("key", h, k, record);
                h.look("card", 42);
                h.look("role", 44);
                h.look("the key is none just with its record", k > 0 ? new int[0] : new int[] {record});
            }
        }
    }

    private static Hand keeperAtWork(int records) {
        Hand h = Hand.enrolled(CHECK);
        h.fillJust(records);
        h.takeRole(2, 2);
        h.disk(new byte[] {7});
        h.press(1);
        return h;
    }

    private static void archiveWithItsRecord() {
        for (int k = 0; k <= 2; k++) {
            Hand h = keeperAtWork(1);
            cutLook("archive", h, k, 56);
            CHECK.due("the disk's first byte", h.house.diskAt(0), k > 0 ? 82 : 7);
            CHECK.due("the disk's last byte", h.house.diskAt(k > 0 ? 80 : 1) >= 0, k > 0);
            CHECK.due("the disk's end", h.house.diskAt(81), -1);
        }
        // 93 records, and 42, 44, 51: the archive's 56 makes a block go.
        for (int k = 0; k <= 3; k++) {
            Hand h = keeperAtWork(93);
            h.house.cutAt(k);
            int[][] due = {{30, 70}, {30, 70}, {30, 56, 70}, {30, 56, 70}};
            h.cutLook("archive of full records", -2 - Math.min(k, 2), due[k]);
            CHECK.due("the disk's first byte", h.house.diskAt(0), k > 1 ? 82 : 7);
            CHECK.due("the first record's number", h.house.diskAt(4), k > 1 ? 9 : -1);
        }
    }

    private static void clearingWithItsRecord() {
        for (int k = 0; k <= 2; k++) {
            Hand h = keeperAtWork(1);
            h.look("writes", 56);
            cutLook("clearing", h, k, 57);
            CHECK.due("records left", h.house.show(9), k > 0 ? 2 : 6);
            CHECK.due("the oldest", h.number(0, 0, 4), k > 0 ? 6 : 1);
        }
        // 92 records, and 42, 44, 51, 56: the 57 makes a block go.
        for (int k = 0; k <= 3; k++) {
            Hand h = keeperAtWork(92);
            h.look("writes", 56);
            h.house.cutAt(k);
            int[][] due = {{30, 70}, {30, 70}, {30, 57, 70}, {30, 57, 70}};
            h.cutLook("clearing of full records", -2 - Math.min(k, 2), due[k]);
            CHECK.due("records left", h.house.show(9), k > 1 ? 96 + 3 - 24 : 90);
            CHECK.due("the oldest", h.number(0, 0, 4), k > 1 ? 25 : 9);
            CHECK.due("records' alarm", h.house.show(2), 1);
        }
    }

    private static void latchWithBothItsRecords() {
        for (int k = 0; k <= 3; k++) {
            Hand h = Hand.enrolled(CHECK);
            h.comeWithPass(1);
            h.house.put(0, -1);
            cutLook("removal", h, k, 14, 22);
            h.house.door(true);
            h.look("the door may not be open, whatever was put", 20, 24);
            Hand g = Hand.enrolled(CHECK);
            g.takeRole(2, 1);
            g.press(3);
            cutLook("unlock", g, k, 61, 22);
            g.house.door(true);
            g.look("the door may not be open, whatever was put", 20, 24, 42);
        }
    }

    private static void shutWithBothItsRecords() {
        for (int k = 0; k <= 3; k++) {
            Hand h = Hand.enrolled(CHECK);
            h.takeRole(2, 3);
            h.openLatch(1);
            h.press(4);
            cutLook("shut", h, k, 23, 62);
            h.look("it works again", 42);
        }
    }

    private static void keysSettingsAndSerialsStay() {
        Hand h = Hand.enrolled(CHECK);
        h.change(1, 2, 3, 4, 5, 0, 12, 0, 999);
        h.soundCard(1, 0, 0);
        h.comeTo(5, 1);
        int records = h.house.show(9);
        cutLook("start", h, 0);
        int[] due = {2, Hand.OWN, 2, 1, 2, 3, 4, 5, 0, 12, 0, 999};
        for (int i = 0; i < due.length; i++) {
            CHECK.due("show(" + (11 + i) + ")", h.house.show(11 + i), due[i]);
        }
        CHECK.due("records", h.house.show(9), records + 1);
        CHECK.due("time", h.house.show(8), 0);
    }

    private static void whatIsSeenStays() {
        Hand h = Hand.enrolled(CHECK);
        h.soundCard(1, 0, 0);
        h.comeTo(2, 1);
        h.disk(new byte[] {4});
        h.tape(new byte[] {5, 6});
        cutLook("start", h, 0);
        CHECK.due("the disk", h.house.diskAt(0), 4);
        CHECK.due("the tape", h.house.cut(2), 0);
        CHECK.due("the card is at its reader", h.house.put(1, 1), false);
        h.look("card", 2);
        h.look("sound", 4);
        h.look("the finger", 6);
    }
}
