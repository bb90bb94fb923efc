import java.util.Arrays;

/** The edges of part 6 of the terms, inside: roles, keys, and the four requests. */
final class InsideEdgesTest {
    private static final int GUARD = 1;
    private static final int KEEPER = 2;
    private static final int OFFICER = 3;
    private static final Check CHECK = new Check();

    public static void main(String[] args) {
        innerCardThatWasAwayBetweenLooks();
        innerCardThatGoesBeforeItIsRead();
        guestHasNoRole();
        roleNeedsAPassNotARight();
        passIsGoodUpToItsTime();
        anotherCardIsNoRemoval();
        roleLeavesWithItsCard();
        roleEndsWithItsPass();
        roleEndsWithAnotherRole();
        roleStaysWithAnotherPassOfIt();
        cardThatGoesComesBeforeAPassThatIsOver();
        roleEndsBeforeAKeyIsTaken();
        eachKeyIsForOneRole();
        keyIsNoneOnceItIsTaken();
        keyWaitsForARole();
        keyWaitsForTheEndOfARequest();
        requestIsOverWithItsRole();
        diskIsAskedForOnce();
        emptyDiskIsADisk();
        archiveOfFewerThanTwentyFour();
        archiveOfTwentyFourAndMore();
        archiveTakesThePlaceOfWhatTheDiskHad();
        eachByteOfAnArchiveCounts();
        archiveOfAnotherLength();
        archiveWithoutItsDisk();
        archiveThatCameBack();
        recordsThatCameSinceAreKept();
        archiveOfRecordsThatWent();
        unlockLeavesTheStateOutside();
        unlockOfAnOpenLatch();
        shutNeedsAClosedDoor();
        shutSeesTheDoorOfItsLook();
        shutLocksAnOpenLatch();
        shutWhenTheLatchIsDueToLock();
        shutMakesOutsideQuiet();
        shutSeesNoMoreCards();
        CHECK.end();
    }

    private static Hand withRole(int role) {
        Hand h = Hand.enrolled(CHECK);
        h.takeRole(2, role);
        return h;
    }

    private static void innerCardThatWasAwayBetweenLooks() {
        Hand h = withRole(GUARD);
        h.house.put(1, -1);
        h.house.put(1, 9);
        h.house.put(1, 2);
        h.look("it is there when looked at");
        h.inside("it is there", 2, 5, GUARD);
    }

    private static void innerCardThatGoesBeforeItIsRead() {
        for (int other : new int[] {-1, 0, 15}) {
            Hand h = Hand.enrolled(CHECK);
            h.soundCard(2, 3, 0);
            h.pass(2, 3, 0, Hand.LATE);
            h.house.put(1, 2);
            h.look("card", 42);
            h.house.put(1, other);
            h.look("goes", 43);
            h.lastTells("goes", 1, 2, 52);
            h.inside("goes", 2, 1, -1);
            if (other < 0) {
                h.look("no other comes");
            } else {
                h.look("the other one is seen", 42);
                h.lastTells("the other one", 0, other, 0);
            }
        }
    }

    private static void guestHasNoRole() {
        for (int role = 0; role <= 3; role++) {
            Hand h = Hand.enrolled(CHECK);
            h.soundCard(2, 3 - role, 5);
            h.pass(2, role, 5, Hand.LATE);
            h.house.put(1, 2);
            h.look("card", 42);
            h.inside("card", 3, 2, -1);
            h.look("role " + role, role == 0 ? 45 : 44);
            h.lastTells("role " + role, role == 0 ? 1 : 0, 2, 52);
            h.inside("role " + role, role == 0 ? 4 : 2, role == 0 ? 4 : 5, role == 0 ? -1 : role);
        }
    }

    private static void roleNeedsAPassNotARight() {
        Hand h = Hand.enrolled(CHECK);
        h.soundCard(2, OFFICER, 5);
        h.house.put(1, 2);
        h.look("card", 42);
        h.look("a right is no pass", 45);
        Hand g = Hand.enrolled(CHECK);
        g.soundCard(2, 0, 0);
        g.pass(2, OFFICER, 0, Hand.LATE);
        g.house.card(2, 1);
        g.house.card(2, 2);
        g.house.put(1, 2);
        g.look("card", 42);
        g.look("a pass needs no right and no finger", 44);
    }

    private static void passIsGoodUpToItsTime() {
        for (int now = 29; now <= 31; now++) {
            Hand h = Hand.enrolled(CHECK);
            h.soundCard(2, 0, 0);
            h.pass(2, GUARD, 0, 30);
            h.house.tick(now);
            h.house.put(1, 2);
            h.look("card", 42);
            h.look("at " + now, now <= 30 ? 44 : 45);
        }
    }

    private static void anotherCardIsNoRemoval() {
        Hand h = Hand.enrolled(CHECK);
        h.house.put(1, 2);
        h.look("card", 42);
        h.look("no pass", 45);
        h.house.put(1, 3);
        h.house.tick(100000);
        h.look("another card in its place, however long");
        h.inside("another card", 4, 4, -1);
        h.house.put(1, -1);
        h.look("none then", 46);
        h.lastTells("the first one is told", 0, 2, 0);
        h.inside("none then", 2, 1, -1);
    }

    /** A keeper in quiet (2), where an archive starts (5), or where it ends (6). */
    private static Hand keeperIn(int state, int passTo) {
        Hand h = withRole(KEEPER);
        h.pass(2, KEEPER, 0, passTo);
        if (state > 2) {
            h.press(1);
        }
        if (state > 5) {
            h.disk(new byte[2]);
            h.look("archive", 56);
        }
        CHECK.due("state", h.house.show(6), state);
        return h;
    }

    private static void roleLeavesWithItsCard() {
        for (int state : new int[] {2, 5, 6}) {
            for (int other : new int[] {-1, 0, 15}) {
                Hand h = keeperIn(state, Hand.LATE);
                h.house.put(1, other);
                h.look("leaves in " + state, 47);
                h.lastTells("leaves in " + state, 0, 2, 52);
                h.inside("leaves in " + state, 2, 1, -1);
                if (other < 0) {
                    h.look("nobody comes");
                } else {
                    h.look("the other one is seen", 42);
                    h.lastTells("the other one", 0, other, 0);
                }
            }
        }
    }

    private static void roleEndsWithItsPass() {
        for (int state : new int[] {2, 5, 6}) {
            Hand h = keeperIn(state, 40);
            h.house.tick(40);
            h.look("at its pass' time in " + state, state == 6 ? new int[] {57} : new int[0]);
            h.inside("at its pass' time", state == 5 ? 5 : 2, state == 5 ? 7 : 5, KEEPER);
            Hand g = keeperIn(state, 40);
            g.house.tick(41);
            int before = g.house.show(9);
            g.look("behind its pass' time in " + state, 48);
            g.lastTells("behind its pass' time", 1, 2, 52);
            g.inside("behind its pass' time", 4, 4, -1);
            CHECK.due("nothing is cleared", g.house.show(9), before + 1);
        }
    }

    private static void roleEndsWithAnotherRole() {
        for (int state : new int[] {2, 5, 6}) {
            for (int role : new int[] {0, 1, 3}) {
                Hand h = keeperIn(state, Hand.LATE);
                h.pass(2, role, 0, Hand.LATE);
                h.look("role " + role + " in " + state, 48);
                h.lastTells("role " + role, 1, 2, 52);
                h.inside("role " + role, 4, 4, -1);
                h.look("the card is to be removed");
                h.house.put(1, -1);
                h.look("it is", 46);
            }
        }
    }

    private static void roleStaysWithAnotherPassOfIt() {
        Hand h = withRole(KEEPER);
        h.pass(2, KEEPER, 5, 77);
        h.look("another pass with that role");
        h.inside("another pass with that role", 2, 5, KEEPER);
    }

    private static void cardThatGoesComesBeforeAPassThatIsOver() {
        for (int state : new int[] {2, 5, 6}) {
            Hand h = keeperIn(state, 40);
            h.house.tick(41);
            h.house.put(1, -1);
            h.look("gone and over in " + state, 47);
            h.inside("gone and over", 2, 1, -1);
        }
    }

    private static void roleEndsBeforeAKeyIsTaken() {
        Hand h = withRole(KEEPER);
        h.house.key(1);
        h.house.put(1, -1);
        h.look("gone with a key", 47);
        h.takeRole(2, KEEPER);
        h.look("the key was not taken then", 51);
        Hand g = keeperIn(2, 40);
        g.house.key(1);
        g.house.tick(41);
        g.look("over with a key", 48);
    }

    private static void eachKeyIsForOneRole() {
        int[] whose = {0, KEEPER, OFFICER, GUARD, OFFICER};
        for (int role = GUARD; role <= OFFICER; role++) {
            for (int key = 1; key <= 4; key++) {
                Hand h = withRole(role);
                h.house.key(key);
                boolean may = whose[key] == role;
                h.look("key " + key + " of " + role, may ? 50 + key : 55);
                h.lastTells("key " + key, may ? 0 : 1, 2, 52);
                h.inside("key " + key, may ? 5 : 2, may ? 6 : 3, role);
                if (!may) {
                    h.look("it is none then");
                    h.inside("the screen stays", 2, 3, role);
                }
            }
        }
    }

    private static void keyIsNoneOnceItIsTaken() {
        Hand h = withRole(GUARD);
        h.house.key(3);
        h.look("key", 53);
        h.look("unlock", 61, 22);
        h.look("it is none");
        h.inside("it is none", 2, 5, GUARD);
    }

    private static void keyWaitsForARole() {
        Hand h = Hand.enrolled(CHECK);
        h.house.key(3);
        h.look("nobody is there");
        h.takeRole(2, GUARD);
        h.look("the key is taken then", 53);
    }

    private static void keyWaitsForTheEndOfARequest() {
        Hand h = withRole(KEEPER);
        h.disk(new byte[0]);
        h.press(1);
        h.house.key(3);
        h.look("starts", 56);
        h.look("ends", 57);
        h.look("the key is taken then", 55);
    }

    private static void requestIsOverWithItsRole() {
        Hand h = keeperIn(5, Hand.LATE);
        h.house.put(1, -1);
        h.look("leaves", 47);
        h.disk(new byte[0]);
        h.takeRole(2, KEEPER);
        h.look("nothing is left of the request");
        CHECK.due("the disk stays", h.house.diskAt(0), -1);
    }

    private static void diskIsAskedForOnce() {
        int[] roles = {0, KEEPER, OFFICER};
        for (int key = 1; key <= 2; key++) {
            Hand h = withRole(roles[key]);
            h.press(key);
            h.house.put(0, 9);
            h.look("asking is the act: the card outside is not seen");
            h.inside("asking", 5, 7, roles[key]);
            h.outside("asking", 0, 1);
            h.look("asking again is none", 2);
            h.inside("asking again", 5, 7, roles[key]);
            h.look("outside", 5);
            h.look("nothing");
            h.inside("still asking", 5, 7, roles[key]);
        }
    }

    private static void emptyDiskIsADisk() {
        Hand h = withRole(KEEPER);
        h.press(1);
        CHECK.due("disk()", h.house.disk(), 0);
        h.look("archive", 56);
        h.look("archive", 57);
        Hand g = withRole(OFFICER);
        g.press(2);
        CHECK.due("disk()", g.house.disk(), 0);
        g.look("settings", 60);
        g.inside("settings", 2, 10, OFFICER);
    }

    /** A keeper's archive is written when so many records are there, the one of its writing, too. */
    private static Hand archiveOf(int records) {
        Hand h = withRole(KEEPER);
        for (int i = h.house.show(9); i < records - 2; i++) {
            h.house.key(4);
            h.look("a record more", 55);
        }
        h.disk(new byte[] {1, 2, 3});
        h.press(1);
        h.look("writes", 56);
        h.inside("writes", 6, 6, KEEPER);
        CHECK.due("records", h.house.show(9), records);
        return h;
    }

    private static byte[] diskOf(Hand h) {
        byte[] bytes = new byte[400];
        int length = 0;
        while (length < 400 && h.house.diskAt(length) >= 0) {
            bytes[length] = (byte) h.house.diskAt(length);
            length++;
        }
        return Arrays.copyOf(bytes, length);
    }

    private static void archives(int records, int written) {
        Hand h = archiveOf(records);
        byte[] disk = diskOf(h);
        CHECK.due("archive of " + records + ": length", disk.length, 1 + 16 * written);
        CHECK.due("mark", disk[0], 82);
        for (int i = 0; i < written * 16; i++) {
            CHECK.due("archive's byte", disk[1 + i] & 255, h.house.record(i / 16, i % 16));
        }
        h.look("clears", 57);
        h.lastTells("clears", 0, 2, 52);
        h.inside("clears", 2, 5, KEEPER);
        CHECK.due("records left of " + records, h.house.show(9), records + 1 - written);
        CHECK.due("the oldest one's number", h.number(0, 0, 4), written + 1);
        CHECK.due("the next one's number", h.house.show(10), records + 2);
        CHECK.due("the disk keeps them", diskOf(h).length, disk.length);
    }

    private static void archiveOfFewerThanTwentyFour() {
        archives(5, 5);
        archives(6, 6);
        archives(23, 23);
    }

    private static void archiveOfTwentyFourAndMore() {
        archives(24, 24);
        archives(25, 24);
        archives(26, 24);
        archives(48, 24);
    }

    private static void archiveTakesThePlaceOfWhatTheDiskHad() {
        for (int length : new int[] {0, 1, 81, 82, 400}) {
            Hand h = withRole(KEEPER);
            byte[] had = new byte[length];
            Arrays.fill(had, (byte) 99);
            h.disk(had);
            h.press(1);
            h.look("writes", 56);
            CHECK.due("what was written", diskOf(h).length, 1 + 16 * 5);
            h.look("clears", 57);
        }
    }

    private static void endsIll(Hand h, String what) {
        int before = h.house.show(9);
        h.look(what, 58);
        h.lastTells(what, 1, 2, 52);
        h.inside(what, 2, 11, KEEPER);
        CHECK.due(what + ": nothing is cleared", h.house.show(9), before + 1);
        CHECK.due(what + ": the oldest", h.number(0, 0, 4), 1);
    }

    private static void eachByteOfAnArchiveCounts() {
        for (int at = 0; at < 81; at++) {
            Hand h = archiveOf(5);
            byte[] disk = diskOf(h);
            disk[at] ^= 1;
            h.disk(disk);
            endsIll(h, "byte " + at + " is another");
        }
    }

    private static void archiveOfAnotherLength() {
        for (int length : new int[] {0, 1, 17, 65, 80, 82, 97, 400}) {
            Hand h = archiveOf(5);
            h.disk(Arrays.copyOf(diskOf(h), length));
            endsIll(h, "just " + length + " bytes");
        }
        Hand h = archiveOf(25);
        byte[] more = Arrays.copyOf(diskOf(h), 400);
        for (int k = 0; k < 15; k++) {
            more[385 + k] = (byte) h.house.record(24, k);
        }
        h.disk(more);
        endsIll(h, "more than was written");
    }

    private static void archiveWithoutItsDisk() {
        Hand h = archiveOf(5);
        h.house.noDisk();
        endsIll(h, "no disk");
    }

    private static void archiveThatCameBack() {
        Hand h = archiveOf(25);
        byte[] disk = diskOf(h);
        h.house.noDisk();
        h.disk(disk);
        h.look("a disk with just those bytes", 57);
        h.inside("a disk with just those bytes", 2, 5, KEEPER);
    }

    private static void recordsThatCameSinceAreKept() {
        Hand h = archiveOf(5);
        h.house.door(true);
        h.look("clears", 20, 24, 57);
        CHECK.due("records left", h.house.show(9), 3);
        h.last("those that came since", 20, 24, 57);
        CHECK.due("the oldest one's number", h.number(0, 0, 4), 6);
    }

    private static void archiveOfRecordsThatWent() {
        Hand h = Hand.enrolled(CHECK);
        h.fillJust(92);
        h.disk(new byte[0]);
        h.takeRole(2, KEEPER);
        h.press(1);
        h.look("writes the 96th", 56);
        CHECK.due("96 records", h.house.show(9), 96);
        h.house.door(true);
        h.look("the oldest went before the look's act", 30, 20, 24, 58);
        h.inside("the oldest went", 2, 11, KEEPER);
        CHECK.due("nothing is cleared", h.house.show(9), 92);
    }

    private static void unlockLeavesTheStateOutside() {
        int[] waiting = {0, 2, 6, 7};
        for (int state : waiting) {
            Hand h = withRole(GUARD);
            h.soundCard(1, 0, 0);
            if (state == 7) {
                h.house.put(0, 9);
                h.look("card", 2);
                h.look("bad", 5);
            } else if (state > 0) {
                h.comeTo(state, 1);
            }
            h.house.finger(-1);
            h.press(3);
            h.look("unlock in " + state, 61, 22);
            h.outside("unlock in " + state, state, 7);
            h.inside("unlock in " + state, 2, 5, GUARD);
            CHECK.due("latch", h.house.show(0), 1);
            h.house.tick(14);
            h.look("not yet locked", state == 6 ? new int[] {15} : new int[0]);
            h.house.tick(1);
            h.look("locked", 23);
            h.outside("locked", state == 6 ? 7 : state, state == 6 ? 5 : 1);
        }
    }

    private static void unlockOfAnOpenLatch() {
        Hand h = withRole(GUARD);
        h.press(3);
        h.look("unlock", 61, 22);
        h.house.tick(14);
        h.press(3);
        h.look("unlock again", 61, 22);
        h.house.tick(14);
        h.look("open from then on");
        CHECK.due("latch", h.house.show(0), 1);
        h.house.tick(1);
        h.look("locks", 23);
    }

    private static void shutNeedsAClosedDoor() {
        Hand h = withRole(OFFICER);
        h.house.door(true);
        h.look("door", 20, 24);
        h.press(4);
        h.look("not shut", 63);
        h.lastTells("not shut", 1, 2, 52);
        h.inside("not shut", 2, 5, OFFICER);
        h.outside("not shut", 0, 1);
        CHECK.due("the alarm goes on", h.house.show(1), 1);
    }

    private static void shutSeesTheDoorOfItsLook() {
        Hand h = withRole(OFFICER);
        h.house.door(true);
        h.look("door", 20, 24);
        h.press(4);
        h.house.door(false);
        h.look("closed by then", 21, 25, 62);
        h.inside("closed by then", 7, 12, -1);
        Hand g = withRole(OFFICER);
        g.press(4);
        g.house.door(true);
        g.look("open by then", 20, 24, 63);
        g.inside("open by then", 2, 5, OFFICER);
    }

    private static void shutLocksAnOpenLatch() {
        Hand h = withRole(OFFICER);
        h.openLatch(1);
        h.press(4);
        h.look("shut", 23, 62);
        CHECK.due("latch", h.house.show(0), 0);
        h.outside("shut", 0, 0);
        h.inside("shut", 7, 12, -1);
        Hand g = withRole(OFFICER);
        g.openLatch(1);
        g.house.door(true);
        g.look("door", 20);
        g.press(4);
        g.look("not shut", 63);
        CHECK.due("the latch stays open", g.house.show(0), 1);
        g.outside("not shut", 0, 7);
    }

    private static void shutWhenTheLatchIsDueToLock() {
        Hand h = withRole(OFFICER);
        h.openLatch(1);
        h.press(4);
        h.house.tick(15);
        h.look("locked before, so just once", 23, 62);
        h.outside("shut", 0, 0);
    }

    private static void shutMakesOutsideQuiet() {
        for (int state : new int[] {2, 6}) {
            Hand h = withRole(OFFICER);
            h.soundCard(1, 0, 0);
            h.comeTo(state, 1);
            h.house.finger(-1);
            h.press(4);
            h.look("shut", 62);
            h.outside("shut", 0, 0);
            h.house.put(0, -1);
            h.look("nothing more");
            CHECK.due("the latch stays locked", h.house.show(0), 0);
            h.house.cutAt(0);
            h.cutLook("starts", -2, 70);
            h.look("the inner card is seen anew", 42);
            h.outside("nothing is left outside", 0, 1);
        }
    }

    private static void shutSeesNoMoreCards() {
        Hand h = withRole(OFFICER);
        h.press(4);
        h.house.put(0, 9);
        h.look("the card outside is not seen by the look that shuts", 62);
        h.outside("shut", 0, 0);
        h.look("nor by a later one");
        h.outside("shut", 0, 0);
    }
}
