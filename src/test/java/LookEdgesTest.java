/** The edges of part 4 of the terms, a look: door, latch and alarm, which ACT is done, what RECORDS tell. */
final class LookEdgesTest {
    private static final Check CHECK = new Check();

    public static void main(String[] args) {
        doorMayBeOpenToTimeZeroAtFirst();
        latchLocksJustAtItsTime();
        latchLocksOnceHoweverLate();
        alarmBeginsJustAtItsTime();
        alarmNeedsAnOpenDoor();
        alarmBeginsWithALateDoor();
        alarmBeginsWithALateLook();
        alarmIsToldOnce();
        alarmEndsWhenTheDoorCloses();
        alarmEndsInTheLookThatOpensTheLatch();
        latchThatOpensAgainHasNewTimes();
        oneActALook();
        eachActOutsideIsTheOnlyOne();
        eachActInsideIsTheOnlyOne();
        insideFirstWhileOutsideIsQuiet();
        outsideFirstWhileItIsNotQuiet();
        insideWhenOutsideCanNot();
        nothingToDo();
        beforeEnrolmentNoCardIsSeen();
        badEnrolmentSeesNoCard();
        shutHouseDoesNothing();
        shutHouseMayBeCutOff();
        recordsOfTheDoorTellNoCard();
        bothRecordsOfAnOpeningTellTheCard();
        lockingByShuttingTellsNoCard();
        serialIsToldWhileTheWhoIsGood();
        serialIsThatOfTheCardJustSeen();
        serialOfARowThatCameSince();
        CHECK.end();
    }

    private static Hand with(int unlocked, int silent) {
        Hand h = Hand.enrolled(CHECK);
        h.change(unlocked, silent, 20, 10, 200, 0, 12, 0, 999);
        return h;
    }

    private static void latchAndAlarm(String what, Hand h, int latch, int alarm) {
        CHECK.due(what + ": latch", h.house.show(0), latch);
        CHECK.due(what + ": alarm", h.house.show(1), alarm);
    }

    private static void doorMayBeOpenToTimeZeroAtFirst() {
        Hand h = new Hand(CHECK);
        h.house.door(true);
        h.look("at time 0", 20, 24);
        latchAndAlarm("at time 0", h, 0, 1);
    }

    private static void latchLocksJustAtItsTime() {
        for (int unlocked : new int[] {1, 15, 10000}) {
            Hand h = with(unlocked, 10);
            h.house.tick(7);
            h.openLatch(1);
            h.look("at once it is open still");
            h.house.tick(unlocked - 1);
            h.look("one below its time");
            latchAndAlarm("one below its time", h, 1, 0);
            h.outside("one below its time", 0, 7);
            h.house.tick(1);
            h.look("at its time", 23);
            latchAndAlarm("at its time", h, 0, 0);
            h.outside("at its time", 0, 1);
        }
    }

    private static void latchLocksOnceHoweverLate() {
        Hand h = with(15, 10);
        h.openLatch(1);
        h.house.tick(100000);
        CHECK.due("it locks by a look", h.house.show(0), 1);
        h.look("a late look", 23);
        h.look("it was locked");
        h.house.tick(100000);
        h.look("it was locked");
    }

    private static void alarmBeginsJustAtItsTime() {
        for (int silent : new int[] {1, 10, 10000}) {
            Hand h = with(5, silent);
            h.house.tick(3);
            h.openLatch(1);
            h.house.door(true);
            h.look("door", 20);
            h.house.tick(5);
            h.look("latch locks", 23);
            h.house.tick(silent - 1);
            h.look("one below its time");
            latchAndAlarm("one below its time", h, 0, 0);
            h.house.tick(1);
            h.look("at its time", 24);
            h.lastTells("at its time", 2, 255, 0);
            latchAndAlarm("at its time", h, 0, 1);
        }
    }

    private static void alarmNeedsAnOpenDoor() {
        Hand h = with(5, 10);
        h.openLatch(1);
        h.house.door(true);
        h.look("door opens", 20);
        h.house.tick(14);
        h.house.door(false);
        h.look("door closes, latch locks", 21, 23);
        h.house.tick(1);
        h.look("the time is over, but the door is closed");
        latchAndAlarm("closed", h, 0, 0);
    }

    private static void alarmBeginsWithALateDoor() {
        Hand h = with(5, 10);
        h.openLatch(1);
        h.house.tick(14);
        h.look("latch locks", 23);
        h.house.door(true);
        h.look("the door may be open still", 20);
        h.house.door(false);
        h.look("closed", 21);
        h.house.tick(1);
        h.house.door(true);
        h.look("it may not any more", 20, 24);
    }

    private static void alarmBeginsWithALateLook() {
        Hand h = with(5, 10);
        h.openLatch(1);
        h.house.tick(15);
        h.house.door(true);
        h.look("door, latch and alarm in one look, in this order", 20, 23, 24);
        Hand g = with(5, 10);
        g.openLatch(1);
        g.house.tick(14);
        g.house.door(true);
        g.look("one tick before that", 20, 23);
    }

    private static void alarmIsToldOnce() {
        Hand h = new Hand(CHECK);
        h.house.door(true);
        h.look("begins", 20, 24);
        for (int i = 0; i < 3; i++) {
            h.house.tick(1000);
            h.look("goes on");
            latchAndAlarm("goes on", h, 0, 1);
        }
        h.house.door(false);
        h.look("ends", 21, 25);
        h.look("is over");
        latchAndAlarm("is over", h, 0, 0);
    }

    private static void alarmEndsWhenTheDoorCloses() {
        Hand h = Hand.enrolled(CHECK);
        h.house.tick(9);
        h.house.door(true);
        h.look("begins", 20, 24);
        h.house.door(false);
        h.look("ends", 21, 25);
        h.tells("ends", 1, 0, 255, 0);
        h.lastTells("ends", 0, 255, 0);
        latchAndAlarm("ends", h, 0, 0);
        h.house.door(true);
        h.look("begins again", 20, 24);
    }

    private static void alarmEndsInTheLookThatOpensTheLatch() {
        Hand h = Hand.enrolled(CHECK);
        h.takeRole(2, 1);
        h.house.door(true);
        h.house.key(3);
        h.look("key", 20, 24, 53);
        h.look("unlock", 61, 22, 25);
        h.lastTells("alarm's end", 0, 255, 0);
        latchAndAlarm("unlock", h, 1, 0);
        h.house.tick(24);
        h.look("locks", 23);
        h.house.tick(1);
        h.look("begins again", 24);
    }

    private static void latchThatOpensAgainHasNewTimes() {
        Hand h = with(5, 10);
        h.openLatch(1);
        h.house.tick(4);
        h.openLatch(1);
        h.house.door(true);
        h.look("door", 20);
        h.house.tick(4);
        h.look("open beyond its first time");
        latchAndAlarm("open beyond its first time", h, 1, 0);
        h.house.tick(1);
        h.look("locks at its second time", 23);
        h.house.tick(9);
        h.look("silent beyond its first time");
        h.house.tick(1);
        h.look("alarm at its second time", 24);
    }

    private static void oneActALook() {
        Hand h = Hand.enrolled(CHECK);
        h.soundCard(1, 0, 0);
        h.soundCard(2, 2, 0);
        h.pass(2, 2, 0, Hand.LATE);
        h.disk(new byte[3]);
        h.house.put(0, 1);
        h.house.put(1, 2);
        h.house.finger(5);
        h.house.key(1);
        int[] due = {42, 44, 51, 56, 57, 2, 4, 6, 8, 10, 12};
        for (int record : due) {
            h.look("one of many acts", record);
        }
        h.look("no act is left");
    }

    /** A card waits at the inner reader while acts outside are done. */
    private static Hand innerCardWaits(int state) {
        Hand h = Hand.enrolled(CHECK);
        h.soundCard(1, 0, 0);
        h.comeTo(state, 1);
        h.house.put(1, 2);
        return h;
    }

    private static void justOutside(Hand h, int... records) {
        for (int record : records) {
            h.look("just the act outside", record);
            h.inside("not inside", 2, 1, -1);
        }
    }

    private static void removed(Hand h) {
        h.house.put(0, -1);
        justOutside(h, 16);
        h.look("then inside", 42);
    }

    private static void eachActOutsideIsTheOnlyOne() {
        for (int state = 1; state <= 5; state++) {
            Hand h = innerCardWaits(state);
            h.house.put(0, -1);
            justOutside(h, 1);
            h.look("then inside", 42);
        }
        Hand well = innerCardWaits(1);
        justOutside(well, 4, 6, 8, 10, 12);
        well.house.put(0, -1);
        well.look("just the act outside", 14, 22);
        well.look("then inside", 42);
        Hand pass = innerCardWaits(1);
        pass.pass(1, 0, 0, Hand.LATE);
        justOutside(pass, 3, 12);
        Hand bad = innerCardWaits(1);
        bad.house.card(1, 0);
        justOutside(bad, 5);
        removed(bad);
        Hand late = innerCardWaits(2);
        late.house.finger(-1);
        late.house.tick(21);
        justOutside(late, 7);
        removed(late);
        Hand wrong = innerCardWaits(2);
        wrong.house.finger(65535);
        justOutside(wrong, 6, 9);
        removed(wrong);
        Hand worse = innerCardWaits(4);
        worse.house.card(1, 0);
        justOutside(worse, 5);
        Hand written = innerCardWaits(4);
        written.house.writable(1, false);
        justOutside(written, 11);
        written.house.card(1, 0);
        justOutside(written, 13);
        removed(written);
        Hand stays = innerCardWaits(6);
        stays.house.tick(11);
        justOutside(stays, 15);
        removed(stays);
    }

    /** A card waits at the outer reader while acts inside are done. */
    private static Hand outerCardWaits(int role, int key) {
        Hand h = Hand.enrolled(CHECK);
        h.soundCard(2, 0, 0);
        h.pass(2, role, 0, Hand.LATE);
        h.house.put(1, 2);
        h.house.put(0, 9);
        h.house.key(key);
        justInside(h, 42);
        return h;
    }

    private static void justInside(Hand h, int... records) {
        for (int record : records) {
            h.look("just the act inside", record);
            CHECK.due("not outside", h.house.show(5), 0);
        }
    }

    private static void eachActInsideIsTheOnlyOne() {
        Hand guest = outerCardWaits(0, 0);
        justInside(guest, 45);
        guest.house.put(1, -1);
        justInside(guest, 46);
        guest.look("then outside", 2);
        Hand gone = outerCardWaits(1, 0);
        gone.house.put(1, -1);
        justInside(gone, 43);
        gone.look("then outside", 2);
        Hand guard = outerCardWaits(1, 3);
        justInside(guard, 44, 53);
        guard.look("just the act inside", 61, 22);
        guard.house.key(1);
        justInside(guard, 55);
        guard.house.put(1, -1);
        justInside(guard, 47);
        guard.look("then outside", 2);
        Hand keeper = outerCardWaits(2, 1);
        keeper.house.disk();
        justInside(keeper, 44, 51, 56, 57);
        keeper.house.key(1);
        justInside(keeper, 51, 56);
        keeper.house.noDisk();
        justInside(keeper, 58);
        keeper.pass(2, 1, 0, Hand.LATE);
        justInside(keeper, 48);
        keeper.look("then outside", 2);
        Hand officer = outerCardWaits(3, 2);
        officer.disk(Hand.settings(15, 10, 20, 10, 200, 0, 12, 0, 999));
        justInside(officer, 44, 52, 59);
        officer.house.disk();
        officer.house.key(2);
        justInside(officer, 52, 60);
        officer.house.key(4);
        justInside(officer, 54);
        officer.house.door(true);
        officer.look("just the act inside", 20, 24, 63);
        CHECK.due("not outside", officer.house.show(5), 0);
        officer.look("then outside", 2);
    }

    private static void insideFirstWhileOutsideIsQuiet() {
        Hand h = Hand.enrolled(CHECK);
        h.house.put(0, 1);
        h.house.put(1, 2);
        h.look("inside", 42);
        h.outside("not outside", 0, 1);
        h.look("inside", 45);
        h.look("inside can not, outside", 2);
    }

    private static void outsideFirstWhileItIsNotQuiet() {
        Hand h = Hand.enrolled(CHECK);
        h.house.put(0, 1);
        h.look("outside", 2);
        h.house.put(1, 2);
        h.look("outside", 5);
        h.inside("not inside", 2, 1, -1);
        h.house.put(0, -1);
        h.look("outside", 16);
        h.house.put(0, 1);
        h.look("inside, as outside is quiet", 42);
    }

    private static void insideWhenOutsideCanNot() {
        int[] waiting = {2, 6, 7};
        for (int state : waiting) {
            Hand h = Hand.enrolled(CHECK);
            h.soundCard(1, 0, 0);
            h.comeTo(state == 7 ? 6 : state, 1);
            h.house.finger(state == 2 ? -1 : 5);
            if (state == 2) {
                h.house.put(1, 2);
                h.look("no finger comes", 42);
            } else if (state == 6) {
                h.house.put(1, 2);
                h.look("the card is not removed and may stay", 42);
            } else {
                h.house.tick(11);
                h.look("stayed too long", 15);
                h.house.put(1, 2);
                h.look("the card is not removed", 42);
            }
            CHECK.due("the state outside stays", h.house.show(5), state);
        }
    }

    private static void nothingToDo() {
        Hand h = Hand.enrolled(CHECK);
        h.house.finger(5);
        h.house.key(1);
        h.disk(Hand.enrolment());
        h.house.tick(100000);
        h.look("a finger, a key, a disk, a time that nobody waits for");
        h.outside("nothing", 0, 1);
        h.inside("nothing", 2, 1, -1);
        CHECK.due("the disk stays", h.house.diskAt(0), 69);
    }

    private static void seesNoCard(Hand h, int state, int screen) {
        h.soundCard(1, 0, 0);
        h.soundCard(2, 3, 0);
        h.pass(2, 3, 0, Hand.LATE);
        h.house.put(0, 1);
        h.house.put(1, 2);
        h.house.finger(5);
        h.house.key(4);
        h.house.tick(100);
        for (int i = 0; i < 3; i++) {
            h.look("not enrolled");
            h.outside("not enrolled", 0, 0);
            h.inside("not enrolled", state, screen, -1);
        }
        h.house.door(true);
        h.look("but the door is watched", 20, 24);
    }

    private static void beforeEnrolmentNoCardIsSeen() {
        Hand h = new Hand(CHECK);
        seesNoCard(h, 0, 8);
        h.disk(Hand.enrolment());
        h.look("enrolment", 40);
        h.look("then the inner card is", 42);
    }

    private static void badEnrolmentSeesNoCard() {
        Hand h = new Hand(CHECK);
        h.disk(new byte[1]);
        h.look("bad enrolment", 41);
        seesNoCard(h, 1, 9);
        h.house.noDisk();
        h.look("the disk goes");
        h.inside("the disk goes", 0, 8, -1);
        h.outside("the disk goes", 0, 0);
    }

    private static Hand shut() {
        Hand h = Hand.enrolled(CHECK);
        h.takeRole(2, 3);
        h.press(4);
        h.look("shut", 62);
        h.inside("shut", 7, 12, -1);
        h.outside("shut", 0, 0);
        return h;
    }

    private static void shutHouseDoesNothing() {
        Hand h = shut();
        h.soundCard(1, 0, 0);
        h.house.put(0, 1);
        h.house.finger(5);
        h.house.door(true);
        h.house.key(2);
        h.disk(Hand.enrolment());
        for (int i = 0; i < 3; i++) {
            h.house.tick(1000);
            h.look("shut");
            h.inside("shut", 7, 12, -1);
            h.outside("shut", 0, 0);
            latchAndAlarm("shut", h, 0, 0);
        }
        h.house.put(1, -1);
        h.house.noDisk();
        h.house.door(false);
        h.look("shut");
        h.inside("shut", 7, 12, -1);
    }

    private static void shutHouseMayBeCutOff() {
        for (int k = 0; k <= 10; k++) {
            Hand h = shut();
            h.house.door(true);
            h.house.put(0, 1);
            h.house.cutAt(k);
            h.cutLook("cut off", -2, 70);
            h.lastTells("cut off", 1, 255, 0);
            h.inside("cut off", 2, 1, -1);
            h.outside("cut off", 0, 1);
            h.look("it works again; the door was seen as it is", 24, 42);
        }
    }

    private static void recordsOfTheDoorTellNoCard() {
        Hand h = Hand.enrolled(CHECK);
        h.openLatch(1);
        h.soundCard(1, 0, 0);
        h.house.put(0, 1);
        h.house.tick(25);
        h.house.door(true);
        h.look("door, latch, alarm, card", 20, 23, 24, 2);
        h.tells("20", 3, 0, 255, 0);
        h.tells("23", 2, 0, 255, 0);
        h.tells("24", 1, 2, 255, 0);
        h.tells("2", 0, 0, 1, 51);
        h.house.door(false);
        h.house.put(0, -1);
        h.look("door, alarm, card", 21, 25, 1);
        h.tells("21", 2, 0, 255, 0);
        h.tells("25", 1, 0, 255, 0);
        h.tells("1", 0, 1, 1, 51);
    }

    private static void bothRecordsOfAnOpeningTellTheCard() {
        Hand h = Hand.enrolled(CHECK);
        h.openLatch(0);
        h.tells("14", 1, 0, 0, 50);
        h.tells("22", 0, 0, 0, 50);
        h.takeRole(15, 1);
        h.press(3);
        h.look("unlock", 61, 22);
        h.tells("61", 1, 0, 15, 65);
        h.tells("22", 0, 0, 15, 65);
    }

    private static void lockingByShuttingTellsNoCard() {
        Hand h = Hand.enrolled(CHECK);
        h.openLatch(1);
        h.takeRole(2, 3);
        h.press(4);
        h.look("shut", 23, 62);
        h.tells("23", 1, 0, 255, 0);
        h.tells("62", 0, 0, 2, 52);
    }

    private static void serialIsToldWhileTheWhoIsGood() {
        for (int now = 9; now <= 21; now++) {
            Hand h = Hand.enrolled(CHECK);
            h.sealedRow(3, 0, Hand.head(Hand.WHO, Hand.OTHER, 77, 0, 0, 10, 20).add(7, 4).bytes(), Hand.OTHER_KEY);
            h.house.tick(now);
            h.house.put(0, 3);
            h.look("card", 2);
            int serial = now >= 10 && now <= 20 ? 77 : 0;
            h.lastTells("outside at " + now, 0, 3, serial);
            h.look("card", 5);
            h.lastTells("outside at " + now, 1, 3, serial);
            h.house.put(0, -1);
            h.house.put(1, 3);
            h.look("card", 16);
            h.lastTells("of a card that is gone, at " + now, 0, 3, serial);
            h.look("card", 42);
            h.lastTells("inside at " + now, 0, 3, serial);
            h.look("card", 45);
            h.lastTells("inside at " + now, 1, 3, serial);
        }
    }

    private static void serialIsThatOfTheCardJustSeen() {
        Hand h = Hand.enrolled(CHECK);
        h.soundCard(1, 0, 0);
        h.soundCard(2, 0, 0);
        h.house.put(0, 1);
        h.look("one", 2);
        h.house.put(0, 2);
        h.look("another in its place: the first is told", 1);
        h.lastTells("the first", 1, 1, 51);
        h.look("then the other", 2);
        h.lastTells("the other", 0, 2, 52);
    }

    private static void serialOfARowThatCameSince() {
        Hand h = Hand.enrolled(CHECK);
        h.soundCard(1, 0, 0);
        h.house.put(0, 1);
        h.look("card", 2);
        h.lastTells("card", 0, 1, 51);
        h.sealedRow(1, 0, Hand.head(Hand.WHO, Hand.OTHER, 99, 0, 0, 0, Hand.LATE).add(7, 4).bytes(), Hand.OTHER_KEY);
        h.look("other rows by now", 5);
        h.lastTells("other rows by now", 1, 1, 99);
        h.house.card(1, 0);
        h.house.put(0, -1);
        h.look("no row by now", 16);
        h.lastTells("no row by now", 0, 1, 0);
    }
}
