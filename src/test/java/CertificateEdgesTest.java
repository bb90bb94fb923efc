import java.util.Arrays;

/** The edges of part 1 of the terms: which rows are RIGHT and GOOD, which cards are SOUND and HAVE A PASS. */
final class CertificateEdgesTest {
    private static final int NOW = 100;
    private static final String[] NAMES = {"who", "right", "finger", "pass"};
    private static final Check CHECK = new Check();

    public static void main(String[] args) {
        rowsAreJustSoLong();
        rowsThatAreFarTooShortOrTooLong();
        kindIsThatOfThePlace();
        holderOfAWhoIsZero();
        numberOfAWhoIsFree();
        roleIsZeroToThree();
        classIsZeroToFive();
        templateIsFree();
        issuerIsKnown();
        eachByteOfASealCounts();
        eachByteBeforeASealCounts();
        notBeforeFrom();
        notBehindTo();
        fromBehindTo();
        eachByteOfATimeCounts();
        timesAreWithoutSign();
        serialsAreWithoutSign();
        serialZeroIsOne();
        eachByteOfAHolderCounts();
        eachOfThreeRowsIsNeededToBeSound();
        passNeedsJustItsWho();
        passIsByTheHouseItself();
        fingerAloneIsNeededForItsScore();
        rowThatChangesBetweenLooks();
        CHECK.end();
    }

    // ---- rows as they should be, a card's number being 1

    private static Hand.Row text(int place, int kind, long from, long to) {
        int[] issuers = {Hand.OTHER, Hand.OWN, Hand.OTHER, Hand.OWN};
        int holder = place == 0 ? 0 : Hand.OTHER;
        Hand.Row row = Hand.head(kind, issuers[place], place == 0 ? 51 : 9, holder, place == 0 ? 0 : 51, from, to);
        return place == 0 ? row.add(7, 4) : place == 2 ? row.add(5, 2) : row.add(3, 1).add(5, 1);
    }

    private static byte[] text(int place) {
        return text(place, place + 1, 0, Hand.LATE).bytes();
    }

    private static int[] key(int place) {
        return place % 2 == 0 ? Hand.OTHER_KEY : Hand.KEY;
    }

    private static byte[] changed(byte[] bytes, int at, int value) {
        byte[] other = bytes.clone();
        other[at] = (byte) value;
        return other;
    }

    private static byte[] sealed(byte[] text, int[] key) {
        byte[] row = Arrays.copyOf(text, text.length + 16);
        System.arraycopy(PlainHouse.seal(text, new Hand.Row().key(key).bytes()), 0, row, text.length, 16);
        return row;
    }

    private static Hand withAllFour() {
        Hand h = Hand.enrolled(CHECK);
        h.house.tick(NOW);
        for (int place = 0; place < 4; place++) {
            h.sealedRow(1, place, text(place), key(place));
        }
        return h;
    }

    private static int judged(Hand h) {
        h.house.put(0, 1);
        h.look("card", 2);
        h.house.poll();
        return h.house.record(h.house.show(9) - 1, 8);
    }

    /** One row of a card with four good ones is another: does it count as good in its place? */
    private static void counts(String what, int place, byte[] row, boolean good) {
        Hand h = withAllFour();
        h.tape(row);
        CHECK.due("card()", h.house.card(1, place), true);
        String name = NAMES[place] + ": " + what;
        if (place < 3) {
            h.house.cut(0);
            h.house.card(1, 3);
        }
        int due = place == 3 ? good ? 3 : 4 : good ? 4 : 5;
        CHECK.due(name, judged(h), due);
        long serial = h.number(h.house.show(9) - 1, 12, 4);
        CHECK.due(name + ": serial that is told", serial, place == 0 && !good ? 0 : h.number(h.house.show(9) - 2, 12, 4));
        CHECK.due(name + ": serial that is known", serial != 0, place != 0 || good);
    }

    private static void countsSealed(String what, int place, byte[] text, boolean good) {
        counts(what, place, sealed(text, key(place)), good);
    }

    private static void rowsAreJustSoLong() {
        for (int place = 0; place < 4; place++) {
            byte[] text = text(place);
            for (int more = -2; more <= 2; more++) {
                countsSealed(more + " bytes more", place, Arrays.copyOf(text, text.length + more), more == 0);
            }
            byte[] row = sealed(text, key(place));
            counts("a byte behind its seal", place, Arrays.copyOf(row, row.length + 1), false);
            counts("a byte of its seal missing", place, Arrays.copyOf(row, row.length - 1), false);
        }
    }

    private static void rowsThatAreFarTooShortOrTooLong() {
        for (int place = 0; place < 4; place++) {
            byte[] row = Arrays.copyOf(sealed(text(place), key(place)), 48);
            for (int length : new int[] {0, 1, 2, 3, 7, 15, 16, 17, 20, 21, 22, 23, 25, 47, 48}) {
                counts("just " + length + " bytes", place, Arrays.copyOf(row, length), false);
            }
        }
    }

    private static void kindIsThatOfThePlace() {
        for (int place = 0; place < 4; place++) {
            for (int kind : new int[] {0, 1, 2, 3, 4, 5, 129, 255}) {
                countsSealed("kind " + kind, place, text(place, kind, 0, Hand.LATE).bytes(), kind == place + 1);
            }
        }
    }

    private static void holderOfAWhoIsZero() {
        for (int at = 7; at < 13; at++) {
            countsSealed("holder's byte " + at + " is 1", 0, changed(text(0), at, 1), false);
            countsSealed("holder's byte " + at + " is 128", 0, changed(text(0), at, 128), false);
        }
        countsSealed("its own holder", 0, Hand.head(1, Hand.OTHER, 51, Hand.OTHER, 51, 0, Hand.LATE).add(7, 4).bytes(), false);
    }

    private static void numberOfAWhoIsFree() {
        for (int number : new int[] {0, -1, Integer.MIN_VALUE, Integer.MAX_VALUE}) {
            countsSealed("number " + number, 0, Hand.head(1, Hand.OTHER, 51, 0, 0, 0, Hand.LATE).add(number, 4).bytes(), true);
        }
    }

    private static void roleIsZeroToThree() {
        for (int place = 1; place < 4; place += 2) {
            for (int role : new int[] {0, 1, 2, 3, 4, 5, 127, 128, 255}) {
                countsSealed("role " + role, place, changed(text(place), 21, role), role <= 3);
            }
        }
    }

    private static void classIsZeroToFive() {
        for (int place = 1; place < 4; place += 2) {
            for (int level : new int[] {0, 1, 4, 5, 6, 7, 127, 128, 255}) {
                countsSealed("class " + level, place, changed(text(place), 22, level), level <= 5);
            }
        }
    }

    private static void templateIsFree() {
        for (int template : new int[] {0, 4, 6, 255, 256, 32768, 65535}) {
            byte[] text = changed(changed(text(2), 21, template >> 8), 22, template);
            countsSealed("template " + template, 2, text, true);
        }
    }

    private static void issuerIsKnown() {
        int[] unknown = {0, 1, Hand.OWN - 1, Hand.OWN + 1, Hand.OWN ^ 0x100, Hand.OTHER + 1, Hand.OTHER - 1, 0xff, 0xffff};
        for (int place = 0; place < 4; place++) {
            for (int issuer : unknown) {
                byte[] text = changed(changed(text(place), 1, issuer >> 8), 2, issuer);
                countsSealed("issuer " + issuer, place, text, false);
                counts("issuer " + issuer + " with a key of 0s", place, sealed(text, new int[4]), false);
            }
            counts("another issuer's key", place, sealed(text(place), key(place + 1)), false);
        }
    }

    private static void eachByteOfASealCounts() {
        for (int place = 0; place < 4; place++) {
            byte[] row = sealed(text(place), key(place));
            for (int at = row.length - 16; at < row.length; at++) {
                counts("byte " + at + " of its seal changed", place, changed(row, at, row[at] ^ 1), false);
                counts("byte " + at + " of its seal changed", place, changed(row, at, row[at] ^ 128), false);
            }
        }
    }

    private static void eachByteBeforeASealCounts() {
        for (int place = 0; place < 4; place++) {
            byte[] row = sealed(text(place), key(place));
            for (int at = 0; at < row.length - 16; at++) {
                counts("byte " + at + " changed under its seal", place, changed(row, at, row[at] ^ 1), false);
            }
        }
    }

    private static void countsInTime(int place, long from, long to, boolean good) {
        countsSealed("from " + from + " to " + to, place, text(place, place + 1, from, to).bytes(), good);
    }

    private static void notBeforeFrom() {
        for (int place = 0; place < 4; place++) {
            countsInTime(place, NOW - 1, Hand.LATE, true);
            countsInTime(place, NOW, Hand.LATE, true);
            countsInTime(place, NOW + 1, Hand.LATE, false);
        }
    }

    private static void notBehindTo() {
        for (int place = 0; place < 4; place++) {
            countsInTime(place, 0, NOW + 1, true);
            countsInTime(place, 0, NOW, true);
            countsInTime(place, 0, NOW - 1, false);
            countsInTime(place, 0, 0, false);
        }
    }

    private static void fromBehindTo() {
        for (int place = 0; place < 4; place++) {
            countsInTime(place, NOW, NOW, true);
            countsInTime(place, NOW + 1, NOW, false);
            countsInTime(place, NOW, NOW - 1, false);
            countsInTime(place, NOW + 1, NOW - 1, false);
        }
    }

    private static void eachByteOfATimeCounts() {
        int late = 0x01020304;
        for (int place = 0; place < 4; place++) {
            for (int shift = 0; shift <= 24; shift += 8) {
                goodAtLateTime(place, late, late - (1 << shift), late, true);
                goodAtLateTime(place, late, late + (1 << shift), -1, false);
                goodAtLateTime(place, late, late, late + (1 << shift), true);
                goodAtLateTime(place, late, 0, late - (1 << shift), false);
            }
        }
    }

    private static void goodAtLateTime(int place, int now, int from, int to, boolean good) {
        Hand h = Hand.enrolled(CHECK);
        for (int i = 0; i < now / 100000; i++) {
            h.house.tick(100000);
        }
        h.house.tick(now % 100000);
        for (int i = 0; i < (place < 3 ? 3 : 4); i++) {
            boolean meant = i == place;
            h.sealedRow(1, i, text(i, i + 1, meant ? from : now, meant ? to : now).bytes(), key(i));
        }
        CHECK.due(NAMES[place] + " from " + from + " to " + to, judged(h), place == 3 ? good ? 3 : 4 : good ? 4 : 5);
    }

    private static void timesAreWithoutSign() {
        for (int place = 0; place < 4; place++) {
            for (long time : new long[] {0x7fffffffL, 0x80000000L, 0x80000064L, 0xffff0000L, 0xffffffffL}) {
                countsInTime(place, 0, time, true);
                countsInTime(place, time, 0xffffffffL, false);
            }
        }
    }

    /** A card whose holder's serial is a given one goes the whole way to its pass. */
    private static void goesWith(int serial) {
        Hand h = Hand.enrolled(CHECK);
        h.sealedRow(1, 0, Hand.head(1, Hand.OTHER, serial, 0, 0, 0, Hand.LATE).add(7, 4).bytes(), Hand.OTHER_KEY);
        h.sealedRow(1, 1, Hand.head(2, Hand.OWN, -1, Hand.OTHER, serial, 0, Hand.LATE).add(1, 1).add(2, 1).bytes(), Hand.KEY);
        h.sealedRow(1, 2, Hand.head(3, Hand.OTHER, 0, Hand.OTHER, serial, 0, Hand.LATE).add(5, 2).bytes(), Hand.OTHER_KEY);
        h.house.finger(5);
        CHECK.due("serial " + serial + " is sound", judged(h), 4);
        h.lastTells("serial " + serial, 0, 1, serial);
        h.look("finger", 6);
        h.look("right", 8);
        h.look("pass", 10);
        h.lastTells("serial " + serial, 0, 1, serial);
        for (int i = 0; i < 4; i++) {
            CHECK.due("pass' holder", h.house.at(1, 3, 9 + i), serial >>> (24 - 8 * i) & 255);
        }
        h.house.put(0, -1);
        h.look("gone", 1);
        CHECK.due("serial " + serial + " has a pass", judged(h), 3);
    }

    private static void serialsAreWithoutSign() {
        goesWith(-1);
        goesWith(Integer.MIN_VALUE);
        goesWith(Integer.MAX_VALUE);
    }

    private static void serialZeroIsOne() {
        Hand h = Hand.enrolled(CHECK);
        h.sealedRow(1, 0, Hand.head(1, Hand.OTHER, 0, 0, 0, 0, Hand.LATE).add(7, 4).bytes(), Hand.OTHER_KEY);
        h.sealedRow(1, 3, Hand.head(4, Hand.OWN, 0, Hand.OTHER, 0, 0, Hand.LATE).add(1, 1).add(2, 1).bytes(), Hand.KEY);
        CHECK.due("serial 0 has a pass", judged(h), 3);
        h.lastTells("serial 0", 0, 1, 0);
    }

    private static void eachByteOfAHolderCounts() {
        for (int place = 1; place < 4; place++) {
            byte[] text = text(place);
            for (int at = 7; at < 13; at++) {
                Hand h = withAllFour();
                h.sealedRow(1, place, changed(text, at, text[at] ^ 1), key(place));
                if (place < 3) {
                    h.house.card(1, 3);
                }
                CHECK.due(NAMES[place] + " of another holder, byte " + at, judged(h), place == 3 ? 4 : 5);
                CHECK.due("the who's serial is known", h.number(h.house.show(9) - 1, 12, 4), 51);
            }
        }
    }

    private static void eachOfThreeRowsIsNeededToBeSound() {
        for (int missing = 0; missing < 8; missing++) {
            Hand h = withAllFour();
            h.house.card(1, 3);
            for (int place = 0; place < 3; place++) {
                if ((missing >> place & 1) == 1) {
                    h.house.card(1, place);
                }
            }
            CHECK.due("rows that are missing: " + missing, judged(h), missing == 0 ? 4 : 5);
        }
    }

    private static void passNeedsJustItsWho() {
        Hand h = withAllFour();
        h.house.card(1, 1);
        h.house.card(1, 2);
        CHECK.due("a who and a pass", judged(h), 3);
        Hand g = withAllFour();
        g.house.card(1, 0);
        CHECK.due("a pass without a who", judged(g), 5);
        Hand f = withAllFour();
        f.sealedRow(1, 0, text(0, 1, 0, NOW - 1).bytes(), Hand.OTHER_KEY);
        CHECK.due("a who that is over", judged(f), 5);
    }

    private static void passIsByTheHouseItself() {
        Hand h = withAllFour();
        byte[] text = changed(changed(text(3), 1, Hand.OTHER >> 8), 2, Hand.OTHER);
        h.sealedRow(1, 3, text, Hand.OTHER_KEY);
        CHECK.due("a pass by another issuer that is known", judged(h), 4);
        h.house.put(0, -1);
        h.house.put(1, 1);
        h.look("gone", 1);
        h.look("the same card inside", 42);
        h.look("gets no role by it", 45);
    }

    /** What was found of a row does not hold for the one that comes in its place. */
    private static void rowThatChangesBetweenLooks() {
        for (int place = 0; place < 4; place++) {
            Hand h = withAllFour();
            if (place < 3) {
                h.house.card(1, 3);
            }
            byte[] row = sealed(text(place), key(place));
            for (int round = 0; round < 3; round++) {
                boolean good = round != 1;
                h.tape(good ? row : changed(row, row.length - 1, row[row.length - 1] ^ 1));
                h.house.card(1, place);
                int due = place == 3 ? good ? 3 : 4 : good ? 4 : 5;
                CHECK.due(NAMES[place] + " in round " + round, judged(h), due);
                h.house.put(0, -1);
                h.look("gone", due == 5 ? 16 : 1);
            }
        }
    }

    private static void fingerAloneIsNeededForItsScore() {
        for (int place = 0; place < 3; place++) {
            Hand h = withAllFour();
            h.house.card(1, 3);
            h.house.finger(5);
            CHECK.due("sound", judged(h), 4);
            h.look("finger", 6);
            h.house.card(1, place);
            h.look(NAMES[place] + " is gone when the finger is looked at", place == 2 ? 9 : 8);
            if (place < 2) {
                h.look("but no pass is written then", 5);
                h.outside("but no pass is written then", 7, 5);
                CHECK.due("no pass", h.house.size(1, 3), 0);
            }
        }
    }
}
