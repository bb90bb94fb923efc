/** The edges of part 5 of the terms, outside, and of the SETTINGS that it goes by. */
final class OutsideEdgesTest {
    private static final Check CHECK = new Check();

    public static void main(String[] args) {
        sameCardThatWasAwayBetweenLooks();
        cardThatGoesIsTheActWhateverElseComes();
        passGoesBeforeSoundness();
        passOfACardThatIsNotSound();
        fingerIsWaitedForUpToItsTime();
        fingerBehindItsTimeIsAFinger();
        scoreOfEachEdge();
        scoreCountsEachOfSixteenBits();
        fingerThatIsNotGoodHasNoScore();
        fingerOfAnotherHolderHasAScore();
        templateIsThatOfTheLook();
        passHasTheHoldersRoleAndClass();
        passIsSealedByTheHouse();
        passTakesThePlaceOfAnyRow();
        passSerialsGoOnFromOne();
        passThatIsNotWrittenLeavesTheRow();
        passHoldsUpToItsTime();
        classOfEachEntry();
        passClassGoesBeforeTheRights();
        rightsClassWhenThePassIsOver();
        passClassOfACardThatIsNotSound();
        neitherSoundNorPassNeverEnters();
        opensAndClosesBothCount();
        opensRoundMidnight();
        opensOnLaterDays();
        cardMayStayUpToItsTime();
        cardRemovedBehindItsTimeOpensTheLatch();
        anotherCardIsNoRemoval();
        cardThatGotBadIsRemovedWell();
        illCardIsWaitedForWithoutEnd();
        settingsCountFromTheirLookOn();
        signSevenGoesWithTheLatch();
        CHECK.end();
    }

    private static Hand withSettings(int... values) {
        Hand h = Hand.enrolled(CHECK);
        h.change(values);
        return h;
    }

    private static void sameCardThatWasAwayBetweenLooks() {
        Hand h = Hand.enrolled(CHECK);
        h.soundCard(1, 0, 0);
        h.house.put(0, 1);
        h.look("card", 2);
        h.house.put(0, -1);
        h.house.put(0, 9);
        h.house.put(0, 1);
        h.look("it is there when looked at", 4);
    }

    private static void cardThatGoesIsTheActWhateverElseComes() {
        for (int state = 1; state <= 5; state++) {
            for (int other : new int[] {-1, 0, 15}) {
                Hand h = Hand.enrolled(CHECK);
                h.soundCard(1, 0, 0);
                h.comeTo(state, 1);
                h.house.put(0, other);
                h.house.finger(5);
                h.house.tick(100);
                h.look("goes in " + state, 1);
                h.lastTells("goes in " + state, 1, 1, 51);
                h.outside("goes in " + state, 0, 1);
                CHECK.due("a pass just if it was written", h.house.size(1, 3), state == 5 ? 39 : 0);
                if (other < 0) {
                    h.look("no other comes");
                } else {
                    h.look("the other one is seen", 2);
                    h.lastTells("the other one", 0, other, 0);
                }
            }
        }
    }

    private static void passGoesBeforeSoundness() {
        Hand h = Hand.enrolled(CHECK);
        h.soundCard(1, 0, 0);
        h.pass(1, 0, 0, Hand.LATE);
        h.house.put(0, 1);
        h.look("card", 2);
        h.outside("card", 1, 3);
        h.look("sound, but with a pass", 3);
        h.outside("sound, but with a pass", 5, 3);
    }

    private static void passOfACardThatIsNotSound() {
        Hand h = Hand.enrolled(CHECK);
        h.soundCard(1, 0, 0);
        h.pass(1, 0, 0, Hand.LATE);
        h.house.card(1, 2);
        h.house.put(0, 1);
        h.look("card", 2);
        h.look("not sound, but with a pass", 3);
        h.look("enters", 12);
    }

    private static void fingerIsWaitedForUpToItsTime() {
        for (int wait : new int[] {1, 20, 10000}) {
            Hand h = withSettings(15, 10, wait, 10, 200, 0, 12, 0, 999);
            h.house.tick(13);
            h.soundCard(1, 0, 0);
            h.comeTo(2, 1);
            h.house.finger(-1);
            h.look("at once");
            h.house.tick(wait);
            h.look("at its time");
            h.outside("at its time", 2, 2);
            h.house.tick(1);
            h.look("above its time", 7);
            h.lastTells("above its time", 1, 1, 51);
            h.outside("above its time", 7, 5);
        }
    }

    private static void fingerBehindItsTimeIsAFinger() {
        Hand h = Hand.enrolled(CHECK);
        h.soundCard(1, 0, 0);
        h.comeTo(2, 1);
        h.house.tick(21);
        h.house.finger(5);
        h.look("above its time, but seen", 6);
        h.outside("above its time, but seen", 3, 3);
        h.look("right", 8);
    }

    /** A finger with so many bits like those of template 5. */
    private static int fingerAlike(int alike) {
        return 5 ^ 65535 >> alike;
    }

    private static void scoreIs(int score, int finger, boolean enough) {
        Hand h = withSettings(15, 10, 20, 10, 200, 0, score, 0, 999);
        h.soundCard(1, 0, 0);
        h.comeTo(2, 1);
        h.house.finger(finger);
        h.look("finger", 6);
        h.look("score " + score + ", finger " + finger, enough ? 8 : 9);
        h.lastTells("score", enough ? 0 : 1, 1, 51);
        h.outside("score", enough ? 4 : 7, enough ? 3 : 5);
    }

    private static void scoreOfEachEdge() {
        for (int score = 0; score <= 16; score++) {
            for (int alike = Math.max(0, score - 1); alike <= Math.min(16, score + 1); alike++) {
                scoreIs(score, fingerAlike(alike), alike >= score);
            }
        }
        scoreIs(0, 5 ^ 65535, true);
        scoreIs(16, 5, true);
    }

    private static void scoreCountsEachOfSixteenBits() {
        for (int bit = 0; bit < 16; bit++) {
            scoreIs(16, 5 ^ 1 << bit, false);
            scoreIs(15, 5 ^ 1 << bit, true);
        }
    }

    private static void fingerThatIsNotGoodHasNoScore() {
        Hand h = withSettings(15, 10, 20, 10, 200, 0, 0, 0, 999);
        h.soundCard(1, 0, 0);
        h.comeTo(3, 1);
        h.sealedRow(1, 2, Hand.head(Hand.FINGER, Hand.OTHER, 3, Hand.OTHER, 51, 1, Hand.LATE).add(5, 2).bytes(), Hand.OTHER_KEY);
        h.look("not yet good", 9);
        h.outside("not yet good", 7, 5);
    }

    private static void fingerOfAnotherHolderHasAScore() {
        Hand h = Hand.enrolled(CHECK);
        h.soundCard(1, 0, 0);
        h.comeTo(3, 1);
        h.sealedRow(1, 2, Hand.head(Hand.FINGER, Hand.OTHER, 3, Hand.OTHER, 52, 0, Hand.LATE).add(5, 2).bytes(), Hand.OTHER_KEY);
        h.look("it is good", 8);
        h.look("but the card is not sound", 5);
        h.lastTells("but the card is not sound", 1, 1, 51);
        h.outside("but the card is not sound", 7, 5);
        CHECK.due("no pass", h.house.size(1, 3), 0);
        CHECK.due("no serial", h.house.show(11), 1);
    }

    private static void templateIsThatOfTheLook() {
        Hand h = Hand.enrolled(CHECK);
        h.soundCard(1, 0, 0);
        h.comeTo(3, 1);
        h.sealedRow(1, 2, Hand.head(Hand.FINGER, Hand.OTHER, 3, Hand.OTHER, 51, 0, Hand.LATE).add(5 ^ 65535, 2).bytes(), Hand.OTHER_KEY);
        h.house.finger(5 ^ 65535);
        h.look("another template by then, and the finger that was seen", 9);
    }

    private static void passHasTheHoldersRoleAndClass() {
        for (int role = 0; role <= 3; role++) {
            for (int level = 0; level <= 5; level++) {
                Hand h = Hand.enrolled(CHECK);
                h.soundCard(1, role, level);
                h.house.tick(100 * role + level);
                h.comeTo(5, 1);
                passIs(h, 1, Hand.head(Hand.PASS, Hand.OWN, 1, Hand.OTHER, 51, 100 * role + level, 100 * role + level + 200)
                        .add(role, 1).add(level, 1).bytes());
            }
        }
    }

    private static void passIs(Hand h, int card, byte[] text) {
        byte[] seal = PlainHouse.seal(text, new Hand.Row().key(Hand.KEY).bytes());
        CHECK.due("pass' size", h.house.size(card, 3), 39);
        for (int i = 0; i < 39; i++) {
            CHECK.due("pass' byte " + i, h.house.at(card, 3, i), (i < 23 ? text[i] : seal[i - 23]) & 255);
        }
        CHECK.due("pass' end", h.house.at(card, 3, 39), -1);
    }

    private static void passIsSealedByTheHouse() {
        Hand h = Hand.enrolled(CHECK);
        h.soundCard(1, 0, 0);
        byte[] right = Hand.head(Hand.RIGHT, Hand.OTHER, 2, Hand.OTHER, 51, 0, Hand.LATE).add(1, 1).add(4, 1).bytes();
        h.sealedRow(1, 1, right, Hand.OTHER_KEY);
        h.comeTo(5, 1);
        passIs(h, 1, Hand.head(Hand.PASS, Hand.OWN, 1, Hand.OTHER, 51, 0, 200).add(1, 1).add(4, 1).bytes());
    }

    private static void passTakesThePlaceOfAnyRow() {
        for (int length : new int[] {0, 1, 38, 39, 40, 48}) {
            Hand h = Hand.enrolled(CHECK);
            h.soundCard(1, 2, 3);
            byte[] row = new byte[length];
            java.util.Arrays.fill(row, (byte) 77);
            h.tape(row);
            h.house.card(1, 3);
            h.comeTo(5, 1);
            passIs(h, 1, Hand.head(Hand.PASS, Hand.OWN, 1, Hand.OTHER, 51, 0, 200).add(2, 1).add(3, 1).bytes());
            h.look("enters by it", 12);
        }
    }

    private static void passSerialsGoOnFromOne() {
        Hand h = Hand.enrolled(CHECK);
        for (int card = 0; card < 4; card++) {
            CHECK.due("next serial", h.house.show(11), card + 1);
            h.soundCard(card, 0, 0);
            h.comeTo(5, card);
            CHECK.due("its serial", h.house.at(card, 3, 6), card + 1);
            h.house.put(0, -1);
            h.look("goes", 1);
        }
        CHECK.due("next serial", h.house.show(11), 5);
    }

    private static void passThatIsNotWrittenLeavesTheRow() {
        Hand h = Hand.enrolled(CHECK);
        h.soundCard(1, 0, 0);
        h.tape(new byte[] {9, 8, 7});
        h.house.card(1, 3);
        h.comeTo(4, 1);
        h.house.writable(1, false);
        h.look("may not be written to", 11);
        h.lastTells("may not be written to", 1, 1, 51);
        h.outside("may not be written to", 5, 6);
        CHECK.due("row", h.house.size(1, 3), 3);
        CHECK.due("row", h.house.at(1, 3, 0), 9);
        CHECK.due("serial stays the next", h.house.show(11), 1);
        h.look("enters by its right", 12);
        h.house.put(0, -1);
        h.look("removed", 14, 22);
        h.house.writable(1, true);
        h.comeTo(5, 1);
        CHECK.due("that serial is used then", h.house.at(1, 3, 6), 1);
        CHECK.due("and the next one shown", h.house.show(11), 2);
    }

    private static void passHoldsUpToItsTime() {
        for (int hold : new int[] {1, 200, 10000}) {
            Hand h = withSettings(15, 10, 20, 10, hold, 0, 12, 0, 999);
            h.house.tick(31);
            h.soundCard(1, 0, 0);
            h.comeTo(5, 1);
            h.house.put(0, -1);
            h.look("goes", 1);
            h.house.tick(hold);
            h.house.put(0, 1);
            h.look("card", 2);
            h.look("at its time", 3);
            h.house.put(0, -1);
            h.look("goes", 1);
            h.house.tick(1);
            h.house.put(0, 1);
            h.look("card", 2);
            h.look("behind its time", 4);
        }
    }

    private static void classOfEachEntry() {
        for (int entry = 0; entry <= 5; entry++) {
            for (int level = Math.max(0, entry - 1); level <= Math.min(5, entry + 1); level++) {
                Hand h = withSettings(15, 10, 20, 10, 200, entry, 12, 0, 999);
                h.soundCard(1, 0, level);
                h.comeTo(5, 1);
                boolean may = level >= entry;
                h.look("class " + level + ", entry " + entry, may ? 12 : 13);
                h.lastTells("entry", may ? 0 : 1, 1, 51);
                h.outside("entry", may ? 6 : 7, may ? 4 : 5);
            }
        }
    }

    /** A card with classes of its right and of its pass, which is good up to a time, waits for entry 3. */
    private static Hand withClasses(int rightClass, int passClass, int passTo) {
        Hand h = withSettings(15, 10, 20, 10, 200, 3, 12, 0, 999);
        h.soundCard(1, 0, rightClass);
        h.pass(1, 0, passClass, passTo);
        h.house.put(0, 1);
        h.look("card", 2);
        h.look("pass", 3);
        return h;
    }

    private static void passClassGoesBeforeTheRights() {
        withClasses(5, 2, 50).look("pass 2, right 5", 13);
        withClasses(0, 3, 50).look("pass 3, right 0", 12);
    }

    private static void rightsClassWhenThePassIsOver() {
        Hand h = withClasses(5, 2, 50);
        h.house.tick(51);
        h.look("right 5", 12);
        Hand g = withClasses(0, 3, 50);
        g.house.tick(51);
        g.look("right 0", 13);
        Hand f = withClasses(0, 3, 50);
        f.house.tick(50);
        f.look("pass 3 at its last time", 12);
    }

    private static void passClassOfACardThatIsNotSound() {
        Hand h = withClasses(0, 3, 50);
        h.house.card(1, 1);
        h.look("no right, pass 3", 12);
        Hand g = withClasses(5, 2, 50);
        g.house.card(1, 2);
        g.look("no finger, pass 2", 13);
    }

    private static void neitherSoundNorPassNeverEnters() {
        for (int place = 0; place < 3; place++) {
            Hand h = Hand.enrolled(CHECK);
            h.soundCard(1, 3, 5);
            h.house.writable(1, false);
            h.house.put(0, 1);
            h.house.finger(5);
            for (int record : new int[] {2, 4, 6, 8, 11}) {
                h.look("on the way", record);
            }
            h.house.card(1, place);
            h.look("row " + place + " is gone, and entry is 0", 13);
            h.outside("row " + place + " is gone", 7, 5);
            h.lastTells("row " + place + " is gone", 1, 1, place == 0 ? 0 : 51);
        }
    }

    /** Whether a card with a pass may enter at a time. */
    private static void opensAt(int opens, int closes, int now, boolean open) {
        Hand h = withSettings(15, 10, 20, 10, 200, 0, 12, opens, closes);
        h.soundCard(1, 0, 0);
        h.pass(1, 0, 0, Hand.LATE);
        h.house.tick(now);
        h.house.put(0, 1);
        h.look("card", 2);
        h.look("pass", 3);
        h.look("opens " + opens + ", closes " + closes + ", now " + now, open ? 12 : 13);
        h.outside("entry", open ? 6 : 7, open ? 4 : 5);
    }

    private static void opensAndClosesBothCount() {
        opensAt(200, 300, 199, false);
        opensAt(200, 300, 200, true);
        opensAt(200, 300, 300, true);
        opensAt(200, 300, 301, false);
        opensAt(200, 200, 199, false);
        opensAt(200, 200, 200, true);
        opensAt(200, 200, 201, false);
        opensAt(0, 999, 0, true);
        opensAt(0, 999, 999, true);
        opensAt(0, 0, 0, true);
        opensAt(0, 0, 1, false);
        opensAt(999, 999, 998, false);
        opensAt(999, 999, 999, true);
    }

    private static void opensRoundMidnight() {
        opensAt(900, 100, 899, false);
        opensAt(900, 100, 900, true);
        opensAt(900, 100, 999, true);
        opensAt(900, 100, 0, true);
        opensAt(900, 100, 100, true);
        opensAt(900, 100, 101, false);
        opensAt(999, 0, 998, false);
        opensAt(999, 0, 999, true);
        opensAt(999, 0, 0, true);
        opensAt(999, 0, 1, false);
        opensAt(201, 200, 200, true);
        opensAt(201, 200, 201, true);
        opensAt(202, 200, 201, false);
    }

    private static void opensOnLaterDays() {
        opensAt(900, 100, 1000, true);
        opensAt(900, 100, 1100, true);
        opensAt(900, 100, 1101, false);
        opensAt(900, 100, 99899, false);
        opensAt(900, 100, 99900, true);
        opensAt(200, 300, 1000, false);
        opensAt(200, 300, 99199, false);
        opensAt(200, 300, 99200, true);
        opensAt(200, 300, 99300, true);
        opensAt(200, 300, 99301, false);
        opensAt(0, 999, 100000, true);
    }

    private static void cardMayStayUpToItsTime() {
        for (int remove : new int[] {1, 10, 10000}) {
            Hand h = withSettings(15, 10, 20, remove, 200, 0, 12, 0, 999);
            h.house.tick(5);
            h.comeWithPass(1);
            h.look("at once");
            h.house.tick(remove);
            h.look("at its time");
            h.outside("at its time", 6, 4);
            h.house.tick(1);
            h.look("above its time", 15);
            h.lastTells("above its time", 1, 1, 51);
            h.outside("above its time", 7, 5);
            h.house.put(0, -1);
            h.look("removed then", 16);
            CHECK.due("the latch stays locked", h.house.show(0), 0);
        }
    }

    private static void cardRemovedBehindItsTimeOpensTheLatch() {
        Hand h = Hand.enrolled(CHECK);
        h.comeWithPass(1);
        h.house.tick(1000);
        h.house.put(0, -1);
        h.look("no card is seen: that goes first", 14, 22);
        h.outside("no card is seen", 0, 7);
        CHECK.due("the latch opens", h.house.show(0), 1);
    }

    private static void anotherCardIsNoRemoval() {
        Hand h = Hand.enrolled(CHECK);
        h.comeWithPass(1);
        h.house.put(0, 2);
        h.look("another card in its place");
        h.outside("another card in its place", 6, 4);
        h.house.put(0, -1);
        h.look("none then", 14, 22);
        h.lastTells("the first one is told", 0, 1, 51);
        Hand g = Hand.enrolled(CHECK);
        g.house.put(0, 1);
        g.look("card", 2);
        g.look("bad", 5);
        g.house.put(0, 2);
        g.look("another card in its place");
        g.outside("another card in its place", 7, 5);
        g.house.put(0, -1);
        g.look("none then", 16);
        g.lastTells("the first one is told", 0, 1, 0);
    }

    private static void cardThatGotBadIsRemovedWell() {
        Hand h = Hand.enrolled(CHECK);
        h.comeWithPass(1);
        for (int place = 0; place < 4; place++) {
            h.house.card(1, place);
        }
        h.house.put(0, -1);
        h.look("its entry was looked at before", 14, 22);
        h.tells("no who any more", 1, 0, 1, 0);
        h.tells("no who any more", 0, 0, 1, 0);
    }

    private static void illCardIsWaitedForWithoutEnd() {
        Hand h = Hand.enrolled(CHECK);
        h.house.put(0, 1);
        h.look("card", 2);
        h.look("bad", 5);
        h.lastTells("bad", 1, 1, 0);
        h.house.tick(100000);
        h.look("it stays");
        h.outside("it stays", 7, 5);
        h.house.put(0, -1);
        h.look("it goes", 16);
        h.outside("it goes", 0, 1);
    }

    private static void settingsCountFromTheirLookOn() {
        Hand h = Hand.enrolled(CHECK);
        h.soundCard(1, 0, 0);
        h.comeTo(2, 1);
        h.house.finger(-1);
        h.change(3, 10, 1, 10, 200, 0, 12, 0, 999);
        h.house.tick(20);
        h.look("a wait that began before keeps its time");
        h.house.tick(1);
        h.look("and is over then", 7);
        Hand g = Hand.enrolled(CHECK);
        g.openLatch(1);
        g.change(3, 1, 20, 10, 200, 0, 12, 0, 999);
        g.house.door(true);
        g.house.tick(14);
        g.look("so does an open latch", 20);
        g.house.tick(1);
        g.look("it locks", 23);
        g.house.tick(9);
        g.look("so does the silence behind it");
        g.house.tick(1);
        g.look("it is over", 24);
    }

    private static void signSevenGoesWithTheLatch() {
        Hand h = Hand.enrolled(CHECK);
        h.openLatch(1);
        h.house.tick(15);
        h.house.put(0, 9);
        h.look("locks before the card is seen", 23, 2);
        h.outside("the card's sign", 1, 3);
        Hand g = Hand.enrolled(CHECK);
        g.openLatch(1);
        g.house.put(0, 9);
        g.look("card", 2);
        g.look("bad", 5);
        g.house.tick(15);
        g.look("locks", 23);
        g.outside("another sign stays", 7, 5);
    }
}
