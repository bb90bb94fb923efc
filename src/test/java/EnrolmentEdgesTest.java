import java.util.Arrays;

/** The edges of DISKS (part 2 of the terms): which bytes are an ENROLMENT, which are SETTINGS. */
final class EnrolmentEdgesTest {
    private static final int[] FIRST = {15, 10, 20, 10, 200, 0, 12, 0, 999};
    private static final Check CHECK = new Check();

    public static void main(String[] args) {
        othersAreZeroToSix();
        moreThanSixOthers();
        nothingBehindAnEnrolment();
        nothingMissingOfAnEnrolment();
        countThatIsNotThatOfTheKeys();
        enrolmentsMark();
        issuersAreAllDifferent();
        issuersMayBeAnyNumber();
        keysMayBeAlike();
        keyOfEachIssuerIsHad();
        houseWithoutOtherKeysWorks();
        emptyAndFullDisksAreNoEnrolment();
        badEnrolmentStaysUntilTheDiskGoes();
        enrolledOnce();
        leastSettings();
        mostSettings();
        eachSettingBelowItsLeast();
        eachSettingAboveItsMost();
        highBytesOfSettings();
        nothingBehindSettings();
        nothingMissingOfSettings();
        settingsMark();
        otherDisksAreNoSettings();
        CHECK.end();
    }

    private static int[] keyOf(int i) {
        return new int[] {i * 0x01010101, -i, 0x7f80ff00 + i, i << 24};
    }

    private static Hand.Row enrolment(int mark, int count, int... issuers) {
        Hand.Row row = new Hand.Row().add(mark, 1).add(issuers[0], 2).key(keyOf(0)).add(count, 1);
        for (int i = 1; i < issuers.length; i++) {
            row.add(issuers[i], 2).key(keyOf(i));
        }
        return row;
    }

    private static int[] issuers(int count) {
        int[] issuers = new int[count];
        for (int i = 0; i < count; i++) {
            issuers[i] = 1000 - 7 * i;
        }
        return issuers;
    }

    private static Hand tries(String what, byte[] bytes, int keys) {
        Hand h = new Hand(CHECK);
        h.disk(bytes);
        boolean good = keys > 0;
        h.look(what, good ? 40 : 41);
        h.lastTells(what, good ? 0 : 1, 255, 0);
        h.inside(what, good ? 2 : 1, good ? 1 : 9, -1);
        h.outside(what, 0, good ? 1 : 0);
        CHECK.due(what + ": keys", h.house.show(13), keys);
        CHECK.due(what + ": own issuer", h.house.show(12), good ? (bytes[1] & 255) * 256 + (bytes[2] & 255) : -1);
        CHECK.due(what + ": the disk stays", h.house.diskAt(bytes.length - 1), bytes.length == 0 ? -1 : bytes[bytes.length - 1] & 255);
        return h;
    }

    private static void othersAreZeroToSix() {
        for (int others = 0; others <= 6; others++) {
            tries(others + " others", enrolment(69, others, issuers(others + 1)).bytes(), others + 1);
        }
    }

    private static void moreThanSixOthers() {
        for (int others : new int[] {7, 8, 20}) {
            tries(others + " others", enrolment(69, others, issuers(others + 1)).bytes(), 0);
        }
    }

    private static void nothingBehindAnEnrolment() {
        for (int others = 0; others <= 6; others++) {
            byte[] row = enrolment(69, others, issuers(others + 1)).bytes();
            tries("a byte behind", Arrays.copyOf(row, row.length + 1), 0);
            tries("18 bytes behind", Arrays.copyOf(row, row.length + 18), 0);
            tries("400 bytes", Arrays.copyOf(row, 400), 0);
        }
    }

    private static void nothingMissingOfAnEnrolment() {
        byte[] row = enrolment(69, 1, 5, 6).bytes();
        for (int length = 0; length < row.length; length++) {
            tries("just " + length + " bytes", Arrays.copyOf(row, length), 0);
        }
        byte[] most = enrolment(69, 6, issuers(7)).bytes();
        tries("a byte missing of six others", Arrays.copyOf(most, most.length - 1), 0);
        tries("a byte missing of none", Arrays.copyOf(enrolment(69, 0, 5).bytes(), 19), 0);
    }

    private static void countThatIsNotThatOfTheKeys() {
        for (int count : new int[] {0, 1, 3, 6, 7, 128, 130, 255}) {
            tries("two others, count " + count, enrolment(69, count, issuers(3)).bytes(), 0);
        }
    }

    private static void enrolmentsMark() {
        for (int mark : new int[] {0, 68, 70, 82, 83, 69 + 128, 101}) {
            tries("mark " + mark, enrolment(mark, 1, 5, 6).bytes(), 0);
        }
    }

    private static void issuersAreAllDifferent() {
        for (int i = 0; i < 7; i++) {
            for (int j = 0; j < i; j++) {
                int[] those = issuers(7);
                those[i] = those[j];
                tries("issuers " + j + " and " + i + " are alike", enrolment(69, 6, those).bytes(), 0);
                those[i] = those[j] ^ 256;
                tries("they differ in the high byte", enrolment(69, 6, those).bytes(), 7);
                those[i] = those[j] ^ 1;
                tries("they differ in the low byte", enrolment(69, 6, those).bytes(), 7);
            }
        }
    }

    private static void issuersMayBeAnyNumber() {
        tries("issuer 0", enrolment(69, 1, 0, 65535).bytes(), 2);
        tries("issuer 65535", enrolment(69, 1, 65535, 0).bytes(), 2);
        tries("issuer 32768", enrolment(69, 0, 32768).bytes(), 1);
    }

    private static void keysMayBeAlike() {
        byte[] row = new Hand.Row().add(69, 1).add(1, 2).key(Hand.KEY).add(1, 1).add(2, 2).key(Hand.KEY).bytes();
        tries("two issuers with one key", row, 2);
    }

    /** A who and a pass by each of seven issuers: who is good by each, the pass just by the first. */
    private static void keyOfEachIssuerIsHad() {
        int[] those = issuers(7);
        for (int i = 0; i < 7; i++) {
            Hand h = tries("seven keys", enrolment(69, 6, those).bytes(), 7);
            h.sealedRow(1, 0, Hand.head(Hand.WHO, those[i], 8, 0, 0, 0, 9).add(0, 4).bytes(), keyOf(i));
            h.sealedRow(1, 3, Hand.head(Hand.PASS, those[i], 8, those[i], 8, 0, 9).add(0, 1).add(0, 1).bytes(), keyOf(i));
            h.house.put(0, 1);
            h.look("card", 2);
            h.lastTells("who by issuer " + i, 0, 1, 8);
            h.look("pass by issuer " + i, i == 0 ? 3 : 5);
        }
    }

    private static void houseWithoutOtherKeysWorks() {
        Hand h = tries("no others", enrolment(69, 0, 5).bytes(), 1);
        h.house.put(0, 1);
        h.look("outside", 2);
        h.house.put(1, 2);
        h.look("outside", 5);
        h.look("inside", 42);
        h.house.cutAt(0);
        h.cutLook("it starts as one that is enrolled", -2, 70);
        h.inside("it starts", 2, 1, -1);
        h.outside("it starts", 0, 1);
    }

    private static void emptyAndFullDisksAreNoEnrolment() {
        tries("empty", new byte[0], 0);
        tries("400 bytes of 0", new byte[400], 0);
        byte[] full = new byte[400];
        Arrays.fill(full, (byte) 69);
        tries("400 bytes of 69", full, 0);
    }

    private static void badEnrolmentStaysUntilTheDiskGoes() {
        Hand h = tries("bad", new byte[1], 0);
        h.disk(Hand.enrolment());
        h.look("another disk at once is not read");
        h.inside("another disk at once", 1, 9, -1);
        h.house.noDisk();
        h.disk(Hand.enrolment());
        h.look("none between two looks is not seen");
        h.inside("none between two looks", 1, 9, -1);
        h.house.noDisk();
        h.look("none: an act without a record");
        h.inside("none", 0, 8, -1);
        h.look("none still");
        h.disk(Hand.enrolment());
        h.look("it is read then", 40);
    }

    private static void enrolledOnce() {
        Hand h = Hand.enrolled(CHECK);
        h.disk(enrolment(69, 0, 5).bytes());
        h.look("a second enrolment is not read");
        CHECK.due("own issuer", h.house.show(12), Hand.OWN);
        CHECK.due("keys", h.house.show(13), 2);
    }

    // ---- settings

    private static Hand officer() {
        Hand h = Hand.enrolled(CHECK);
        h.takeRole(2, 3);
        h.press(2);
        return h;
    }

    private static void changes(String what, byte[] bytes, int[] due) {
        Hand h = officer();
        h.disk(bytes);
        boolean good = due != null;
        h.look(what, good ? 59 : 60);
        h.lastTells(what, good ? 0 : 1, 2, 52);
        h.inside(what, 2, good ? 5 : 10, 3);
        for (int i = 0; i < 9; i++) {
            CHECK.due(what + ": setting " + i, h.house.show(14 + i), good ? due[i] : FIRST[i]);
        }
    }

    private static int[] firstBut(int i, int value) {
        int[] values = FIRST.clone();
        values[i] = value;
        return values;
    }

    private static void leastSettings() {
        int[] least = {1, 1, 1, 1, 1, 0, 0, 0, 0};
        changes("all at their least", Hand.settings(least), least);
        for (int i = 0; i < 9; i++) {
            changes("setting " + i + " at its least", Hand.settings(firstBut(i, least[i])), firstBut(i, least[i]));
        }
    }

    private static void mostSettings() {
        int[] most = {10000, 10000, 10000, 10000, 10000, 5, 16, 999, 999};
        changes("all at their most", Hand.settings(most), most);
        for (int i = 0; i < 9; i++) {
            changes("setting " + i + " at its most", Hand.settings(firstBut(i, most[i])), firstBut(i, most[i]));
        }
    }

    private static void eachSettingBelowItsLeast() {
        for (int i = 0; i < 5; i++) {
            changes("setting " + i + " is 0", Hand.settings(firstBut(i, 0)), null);
        }
    }

    private static void eachSettingAboveItsMost() {
        int[] above = {10001, 10001, 10001, 10001, 10001, 6, 17, 1000, 1000};
        int[] highest = {65535, 65535, 65535, 65535, 65535, 255, 255, 65535, 65535};
        int[] half = {32768, 32768, 32768, 32768, 32768, 128, 128, 32768, 32768};
        for (int i = 0; i < 9; i++) {
            changes("setting " + i + " one above", Hand.settings(firstBut(i, above[i])), null);
            changes("setting " + i + " at its bytes' highest", Hand.settings(firstBut(i, highest[i])), null);
            changes("setting " + i + " with its highest bit", Hand.settings(firstBut(i, half[i])), null);
        }
    }

    private static void highBytesOfSettings() {
        int[] values = {0x0102, 0x0304, 0x0506, 0x0708, 0x090a, 1, 2, 0x0304, 0x0205};
        changes("highest byte first", Hand.settings(values), values);
    }

    private static void nothingBehindSettings() {
        byte[] row = Hand.settings(1, 2, 3, 4, 5, 1, 2, 3, 4);
        changes("a byte behind", Arrays.copyOf(row, 18), null);
        changes("400 bytes", Arrays.copyOf(row, 400), null);
    }

    private static void nothingMissingOfSettings() {
        byte[] row = Hand.settings(1, 2, 3, 4, 5, 1, 2, 3, 4);
        for (int length = 0; length < 17; length++) {
            changes("just " + length + " bytes", Arrays.copyOf(row, length), null);
        }
    }

    private static void settingsMark() {
        for (int mark : new int[] {0, 69, 82, 84, 83 + 128, 115}) {
            byte[] row = Hand.settings(FIRST);
            row[0] = (byte) mark;
            changes("mark " + mark, row, null);
        }
    }

    private static void otherDisksAreNoSettings() {
        changes("an enrolment", Hand.enrolment(), null);
        changes("17 bytes of 0", new byte[17], null);
    }
}
