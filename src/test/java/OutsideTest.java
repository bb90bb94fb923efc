/** Promise 15, part 5 of the terms: cards, fingers and passes at the outer reader, and the latch. */
final class OutsideTest {
    private static final Check CHECK = new Check();

    public static void main(String[] args) {
        wholeVisit();
        visitWithPass();
        cardGoes();
        fingerTooLateOrWrong();
        cardMayNotBeWritten();
        cardStaysTooLong();
        entryByClassAndTime();
        entryByTheRightsClass();
        cardGoesBadOnTheWay();
        latchAndAlarm();
        badRows();
        issuerZeroIsNotKnown();
        holderEndsBeforeFrom();
        outsideGoesFirst();
        CHECK.end();
    }

    private static Hand enrolled() {
        Hand hand = new Hand(CHECK);
        hand.enrol();
        return hand;
    }

    private static void wholeVisit() {
        Hand h = enrolled();
        h.outside("enrolled", 0, 1);
        h.soundCard(3, 2, 4);
        h.house.tick(100);
        h.house.put(0, 3);
        h.look("card", 2);
        h.lastTells("card", 0, 3, 53);
        h.outside("card", 1, 3);
        h.look("sound", 4);
        h.outside("sound", 2, 2);
        h.look("no finger yet");
        h.house.finger(5);
        h.look("finger", 6);
        h.outside("finger", 3, 3);
        h.house.finger(65535);
        h.look("that finger is meant", 8);
        h.outside("right finger", 4, 3);
        h.house.tick(7);
        h.look("pass", 10);
        h.lastTells("pass", 0, 3, 53);
        h.outside("pass", 5, 3);
        CHECK.due("next pass", h.house.show(11), 2);
        passIsAsDue(h);
        h.look("entry", 12);
        h.outside("entry", 6, 4);
        h.look("card still there");
        CHECK.due("latch still locked", h.house.show(0), 0);
        h.house.put(0, -1);
        h.look("latch opens", 14, 22);
        h.lastTells("latch opens", 0, 3, 53);
        h.outside("latch opens", 0, 7);
        CHECK.due("latch is open", h.house.show(0), 1);
        h.house.tick(14);
        h.look("still open");
        h.house.tick(1);
        h.look("latch locks", 23);
        h.lastTells("latch locks", 0, 255, 0);
        h.outside("latch locks", 0, 1);
        CHECK.due("latch is locked", h.house.show(0), 0);
    }

    private static void passIsAsDue(Hand h) {
        Hand other = new Hand(CHECK);
        byte[] row = Hand.head(Hand.PASS, Hand.OWN, 1, Hand.OTHER, 53, 107, 307).add(2, 1).add(4, 1).bytes();
        other.sealedRow(0, 3, row, Hand.KEY);
        CHECK.due("pass' size", h.house.size(3, 3), 39);
        for (int i = 0; i < 39; i++) {
            CHECK.due("pass' byte " + i, h.house.at(3, 3, i), other.house.at(0, 3, i));
        }
    }

    private static void visitWithPass() {
        Hand h = enrolled();
        h.soundCard(1, 0, 0);
        h.pass(1, 0, 5, 60);
        h.house.tick(60);
        h.house.put(0, 1);
        h.look("card", 2);
        h.look("has a pass", 3);
        h.outside("has a pass", 5, 3);
        h.house.tick(1);
        h.look("right's class without the pass", 12);
        h.house.put(0, -1);
        h.look("out", 14, 22);
        h.house.put(0, 1);
        h.look("card again", 2);
        h.outside("card again", 1, 3);
        h.look("pass is over", 4);
        h.house.tick(15);
        h.look("latch locks under another sign", 23);
        h.outside("other sign stays", 2, 2);
    }

    private static void cardGoes() {
        for (int state = 1; state <= 5; state++) {
            for (int other = -1; other <= 9; other += 10) {
                Hand h = enrolled();
                h.soundCard(1, 0, 0);
                h.house.put(0, 1);
                h.house.finger(5);
                for (int i = 0; i < state; i++) {
                    h.house.poll();
                }
                CHECK.due("state", h.house.show(5), state);
                h.house.put(0, other);
                h.look("card goes in " + state, 1);
                h.lastTells("card goes in " + state, 1, 1, 51);
                h.outside("card goes in " + state, 0, 1);
            }
        }
    }

    private static void fingerTooLateOrWrong() {
        Hand h = enrolled();
        h.soundCard(1, 0, 0);
        h.house.put(0, 1);
        h.look("card", 2);
        h.look("sound", 4);
        h.house.tick(20);
        h.look("wait is not over");
        h.house.tick(1);
        h.look("wait is over", 7);
        h.lastTells("wait is over", 1, 1, 51);
        h.outside("wait is over", 7, 5);
        h.house.put(0, 2);
        h.look("another card is no removal");
        h.house.put(0, -1);
        h.look("removed", 16);
        h.lastTells("removed", 0, 1, 51);
        h.outside("removed", 0, 1);
        // 4 bits are not alike: 12 of 16, which is just enough; then 5.
        int[] fingers = {5 ^ 0xf000, 5 ^ 0x1f00};
        for (int f : fingers) {
            h.house.finger(-1);
            h.house.put(0, 1);
            h.look("card", 2);
            h.look("sound", 4);
            h.house.tick(21);
            h.house.finger(f);
            h.look("a finger counts even behind the time", 6);
            h.look("score", f == fingers[0] ? 8 : 9);
            h.outside("score", f == fingers[0] ? 4 : 7, f == fingers[0] ? 3 : 5);
            h.house.put(0, -1);
            h.look("gone", f == fingers[0] ? 1 : 16);
        }
    }

    private static void cardMayNotBeWritten() {
        Hand h = enrolled();
        h.soundCard(1, 0, 0);
        h.house.writable(1, false);
        h.house.put(0, 1);
        h.house.finger(5);
        h.look("card", 2);
        h.look("sound", 4);
        h.look("finger", 6);
        h.look("right finger", 8);
        h.look("pass not written", 11);
        h.lastTells("pass not written", 1, 1, 51);
        h.outside("pass not written", 5, 6);
        CHECK.due("no pass", h.house.size(1, 3), 0);
        CHECK.due("serial stays", h.house.show(11), 1);
        h.look("entry by the right", 12);
    }

    private static void cardStaysTooLong() {
        Hand h = enrolled();
        h.soundCard(1, 0, 0);
        h.pass(1, 0, 0, 500);
        h.house.put(0, 1);
        h.look("card", 2);
        h.look("pass", 3);
        h.look("entry", 12);
        h.house.tick(10);
        h.look("may stay");
        h.house.tick(1);
        h.house.put(0, 4);
        h.look("stayed too long", 15);
        h.lastTells("stayed too long", 1, 1, 51);
        h.outside("stayed too long", 7, 5);
        h.house.put(0, -1);
        h.look("removed ill", 16);
        CHECK.due("latch locked", h.house.show(0), 0);
    }

    private static void entryByClassAndTime() {
        int[][] hours = {{200, 300}, {300, 200}, {250, 250}, {0, 999}, {999, 0}};
        int[] times = {0, 199, 200, 201, 249, 250, 251, 299, 300, 301, 998, 999};
        for (int[] hour : hours) {
            Hand h = enrolled();
            h.takeRole(2, 3);
            h.press(2);
            h.disk(Hand.settings(15, 10, 20, 10, 200, 3, 12, hour[0], hour[1]));
            h.look("settings", 59);
            h.soundCard(1, 0, 0);
            int now = 0;
            for (int i = 0; i < times.length; i++) {
                int level = 2 + i % 3;
                h.pass(1, 0, level, Hand.LATE);
                h.house.tick(times[i] - now);
                now = times[i];
                boolean open = hour[0] <= hour[1] ? now >= hour[0] && now <= hour[1] : now >= hour[0] || now <= hour[1];
                boolean may = level >= 3 && open;
                h.house.put(0, 1);
                h.house.poll();
                h.house.poll();
                h.look("entry at " + now, may ? 12 : 13);
                h.outside("entry at " + now, may ? 6 : 7, may ? 4 : 5);
                h.house.put(0, -1);
                h.house.poll();
                h.house.poll();
            }
        }
    }

    private static void entryByTheRightsClass() {
        for (int level = 2; level <= 4; level++) {
            Hand h = enrolled();
            h.takeRole(2, 3);
            h.press(2);
            h.disk(Hand.settings(15, 10, 20, 10, 200, 3, 12, 0, 999));
            h.look("settings", 59);
            h.soundCard(1, 0, level);
            h.house.writable(1, false);
            h.house.put(0, 1);
            h.house.finger(5);
            for (int i = 0; i < 5; i++) {
                h.house.poll();
            }
            h.outside("waits for entry without a pass", 5, 6);
            h.look("right's class " + level, level >= 3 ? 12 : 13);
        }
    }

    private static void cardGoesBadOnTheWay() {
        Hand h = enrolled();
        h.soundCard(1, 0, 0, 30);
        h.house.put(0, 1);
        h.house.finger(5);
        h.house.tick(30);
        h.look("card", 2);
        h.look("sound", 4);
        h.look("finger", 6);
        h.house.tick(1);
        h.look("finger row is over", 9);
        h.lastTells("no serial of a row that is over", 1, 1, 0);
        Hand g = enrolled();
        g.soundCard(1, 0, 0, 30);
        g.house.put(0, 1);
        g.house.finger(5);
        g.house.poll();
        g.house.poll();
        g.house.poll();
        g.look("right finger", 8);
        g.house.tick(31);
        g.look("no more sound when it writes", 5);
        g.outside("no more sound when it writes", 7, 5);
        Hand f = enrolled();
        f.soundCard(1, 0, 0, 30);
        f.house.writable(1, false);
        f.house.put(0, 1);
        f.house.finger(5);
        for (int i = 0; i < 5; i++) {
            f.house.poll();
        }
        f.outside("waits for entry", 5, 6);
        f.house.tick(31);
        f.look("no more sound at entry", 13);
        f.outside("no more sound at entry", 7, 5);
    }

    private static void latchAndAlarm() {
        Hand h = enrolled();
        h.soundCard(1, 0, 0);
        h.pass(1, 0, 0, 500);
        h.house.put(0, 1);
        h.house.poll();
        h.house.poll();
        h.house.poll();
        h.house.put(0, -1);
        h.look("latch opens", 14, 22);
        h.house.door(true);
        h.look("door opens in time", 20);
        h.house.tick(15);
        h.look("latch locks, silent", 23);
        CHECK.due("no alarm yet", h.house.show(1), 0);
        h.house.tick(9);
        h.look("still silent");
        h.house.tick(1);
        h.look("alarm", 24);
        CHECK.due("alarm", h.house.show(1), 1);
        h.house.put(0, 1);
        h.look("card", 2);
        h.look("pass", 3);
        h.look("entry", 12);
        h.house.put(0, -1);
        h.look("opening ends the alarm", 14, 22, 25);
        CHECK.due("alarm off", h.house.show(1), 0);
        h.house.tick(25);
        h.look("locks and alarms at once", 23, 24);
        h.house.door(false);
        h.look("closed", 21, 25);
    }

    private static void badRows() {
        tries("sound", 0, null, 4);
        Hand.Row longWho = Hand.head(Hand.WHO, Hand.OTHER, 51, 0, 0, 0, 9).add(7, 4).add(0, 1);
        tries("too long", 0, longWho.bytes(), 5);
        tries("too short", 0, Hand.head(Hand.WHO, Hand.OTHER, 51, 0, 0, 0, 9).add(7, 3).bytes(), 5);
        tries("other kind", 0, Hand.head(Hand.RIGHT, Hand.OTHER, 51, 0, 0, 0, 9).add(7, 4).bytes(), 5);
        tries("holder's issuer", 0, Hand.head(Hand.WHO, Hand.OTHER, 51, 1, 0, 0, 9).add(7, 4).bytes(), 5);
        tries("holder's serial", 0, Hand.head(Hand.WHO, Hand.OTHER, 51, 0, 1, 0, 9).add(7, 4).bytes(), 5);
        tries("unknown issuer", 0, Hand.head(Hand.WHO, 5, 51, 0, 0, 0, 9).add(7, 4).bytes(), 5);
        tries("issuer with another key", 0, Hand.head(Hand.WHO, Hand.OWN, 51, 0, 0, 0, 9).add(7, 4).bytes(), 5);
        tries("another who", 0, Hand.head(Hand.WHO, Hand.OTHER, 52, 0, 0, 0, 9).add(7, 4).bytes(), 5);
        tries("not yet", 0, Hand.head(Hand.WHO, Hand.OTHER, 51, 0, 0, 1, 9).add(7, 4).bytes(), 5);
        tries("without sign", 0, Hand.head(Hand.WHO, Hand.OTHER, 51, 0, 0, 0, 0xffffffffL).add(7, 4).bytes(), 4);
        tries("from without sign", 0, Hand.head(Hand.WHO, Hand.OTHER, 51, 0, 0, 0x80000000L, 0xffffffffL).add(7, 4).bytes(), 5);
        tries("right by other issuer", 1, right(Hand.OTHER, 51, 3, 5), 4);
        tries("right of another issuer's holder", 1, right(Hand.OWN, 51, 3, 5), 5);
        tries("right of a holder's issuer with another high byte", 1, right(Hand.OTHER ^ 0x100, 51, 3, 5), 5);
        tries("right of another holder", 1, right(Hand.OTHER, 52, 3, 5), 5);
        tries("role 4", 1, right(Hand.OTHER, 51, 4, 5), 5);
        tries("class 6", 1, right(Hand.OTHER, 51, 3, 6), 5);
        tries("role 255", 1, right(Hand.OTHER, 51, 255, 0), 5);
        tries("finger of another holder", 2, Hand.head(Hand.FINGER, Hand.OTHER, 1, Hand.OTHER, 52, 0, 9).add(5, 2).bytes(), 5);
        tries("finger with high bytes", 2, Hand.head(Hand.FINGER, Hand.OTHER, 1, Hand.OTHER, 51, 0, 9).add(0xffff, 2).bytes(), 4);
        tries("empty", 1, new byte[0], 5);
        tries("pass by other issuer", 3, Hand.head(Hand.PASS, Hand.OTHER, 1, Hand.OTHER, 51, 0, 9).add(0, 1).add(0, 1).bytes(), 4);
        everyByteOfAPassCounts();
    }

    private static byte[] right(int holderIssuer, int holderSerial, int role, int level) {
        return Hand.head(Hand.RIGHT, Hand.OTHER, 9, holderIssuer, holderSerial, 0, 9).add(role, 1).add(level, 1).bytes();
    }

    private static void tries(String what, int place, byte[] row, int due) {
        Hand h = enrolled();
        h.soundCard(1, 0, 0);
        if (row != null) {
            h.sealedRow(1, place, row, Hand.OTHER_KEY);
        }
        h.house.put(0, 1);
        h.house.poll();
        h.look("row: " + what, due);
    }

    private static void everyByteOfAPassCounts() {
        for (int i = -1; i < 39; i++) {
            Hand h = enrolled();
            h.soundCard(1, 0, 0);
            h.pass(1, 0, 0, 9);
            h.house.put(0, 1);
            h.look("card", 2);
            h.look("pass", 3);
            h.tape(passRow(h, i));
            h.house.card(1, 3);
            h.house.put(0, -1);
            h.look("gone", 1);
            h.house.put(0, 1);
            h.look("card", 2);
            h.look("pass with byte " + i + " changed", i < 0 ? 3 : 4);
        }
    }

    /** Places for keys that the enrolment did not fill stand for no issuer. */
    private static void issuerZeroIsNotKnown() {
        Hand h = enrolled();
        h.soundCard(1, 0, 0);
        byte[] right = Hand.head(Hand.RIGHT, 0, 9, Hand.OTHER, 51, 0, 9).add(0, 1).add(0, 1).bytes();
        h.sealedRow(1, 1, right, new int[4]);
        h.house.put(0, 1);
        h.look("card", 2);
        h.look("issuer 0", 5);
    }

    private static void holderEndsBeforeFrom() {
        Hand h = enrolled();
        for (int i = 0; i < 200; i++) {
            h.house.tick(100000);
        }
        h.soundCard(1, 0, 0, 0xffffffffL);
        byte[] right = Hand.head(Hand.RIGHT, Hand.OTHER, 9, Hand.OTHER, 51, 20000000, 20000000).add(0, 1).add(0, 1).bytes();
        h.sealedRow(1, 1, right, Hand.OTHER_KEY);
        h.house.put(0, 1);
        h.look("card", 2);
        h.look("from and to just now", 4);
    }

    private static byte[] passRow(Hand h, int changed) {
        byte[] row = new byte[39];
        for (int i = 0; i < 39; i++) {
            row[i] = (byte) (h.house.at(1, 3, i) ^ (i == changed ? 1 : 0));
        }
        return row;
    }

    private static void outsideGoesFirst() {
        Hand h = enrolled();
        h.soundCard(1, 0, 0);
        h.soundCard(2, 1, 0);
        h.house.put(0, 1);
        h.house.put(1, 2);
        h.look("inside first while outside is quiet", 42);
        h.look("inside again", 45);
        h.look("outside, as inside has nothing to do", 2);
        h.house.put(1, -1);
        h.look("outside first when it is not quiet", 4);
        h.look("inside, as no finger comes", 46);
        h.look("nothing to do");
    }
}
