import java.io.ByteArrayOutputStream;
import java.util.Arrays;

/** What the tests do with a house again and again: rows of bytes, certificates, disks, visits. */
final class Hand {
    static final int WHO = 1;
    static final int RIGHT = 2;
    static final int FINGER = 3;
    static final int PASS = 4;
    static final int[] KEY = {0x01020304, 0x05060708, 0x090a0b0c, 0x8d8e8f90};
    static final int[] OTHER_KEY = {-1, 77, 0x7fffffff, 5};
    static final int OWN = 0x0102;
    static final int OTHER = 0xfffe;
    static final int LATE = 1_000_000;

    final StationHouse house = new StationHouse();
    final Check check;

    Hand(Check check) {
        this.check = check;
    }

    static Hand enrolled(Check check) {
        Hand hand = new Hand(check);
        hand.enrol();
        return hand;
    }

    /** A row of bytes that is written number by number, each with its highest byte first. */
    static final class Row {
        private final ByteArrayOutputStream bytes = new ByteArrayOutputStream();

        Row add(long value, int width) {
            for (int i = width - 1; i >= 0; i--) {
                bytes.write((int) (value >> (8 * i)));
            }
            return this;
        }

        Row key(int[] words) {
            for (int word : words) {
                add(word, 4);
            }
            return this;
        }

        byte[] bytes() {
            return bytes.toByteArray();
        }
    }

    static Row head(int kind, int issuer, int serial, int holderIssuer, int holderSerial, long from, long to) {
        return new Row().add(kind, 1).add(issuer, 2).add(serial, 4).add(holderIssuer, 2).add(holderSerial, 4)
                .add(from, 4).add(to, 4);
    }

    static byte[] enrolment() {
        return new Row().add(69, 1).add(OWN, 2).key(KEY).add(1, 1).add(OTHER, 2).key(OTHER_KEY).bytes();
    }

    static byte[] settings(int... values) {
        int[] widths = {2, 2, 2, 2, 2, 1, 1, 2, 2};
        Row row = new Row().add(83, 1);
        for (int i = 0; i < widths.length; i++) {
            row.add(values[i], widths[i]);
        }
        return row.bytes();
    }

    /** Brings bytes to the tape, which must be empty. */
    void tape(byte[] bytes) {
        byte[] full = Arrays.copyOf(bytes, (bytes.length + 19) / 20 * 20);
        for (int i = 0; i < full.length; i += 20) {
            house.feed(word(full, i), word(full, i + 4), word(full, i + 8), word(full, i + 12), word(full, i + 16));
        }
        house.cut(bytes.length);
    }

    private static int word(byte[] b, int i) {
        return b[i] << 24 | (b[i + 1] & 255) << 16 | (b[i + 2] & 255) << 8 | b[i + 3] & 255;
    }

    void disk(byte[] bytes) {
        tape(bytes);
        check.due("disk()", house.disk(), bytes.length);
    }

    void sealedRow(int card, int place, byte[] bytes, int[] key) {
        tape(bytes);
        house.seal(key[0], key[1], key[2], key[3]);
        check.due("card(" + card + ", " + place + ")", house.card(card, place), true);
    }

    void enrol() {
        disk(enrolment());
        check.due("poll() that enrols", house.poll(), 1);
        house.noDisk();
    }

    /** A sound card: its holder's serial is 50 and the card's number, its template 5. */
    void soundCard(int card, int role, int level) {
        soundCard(card, role, level, LATE);
    }

    void soundCard(int card, int role, int level, long to) {
        int serial = 50 + card;
        sealedRow(card, 0, head(WHO, OTHER, serial, 0, 0, 0, to).add(7, 4).bytes(), OTHER_KEY);
        sealedRow(card, 1, head(RIGHT, OWN, 2, OTHER, serial, 0, to).add(role, 1).add(level, 1).bytes(), KEY);
        sealedRow(card, 2, head(FINGER, OTHER, 3, OTHER, serial, 0, to).add(5, 2).bytes(), OTHER_KEY);
    }

    void pass(int card, int role, int level, long to) {
        byte[] row = head(PASS, OWN, 900, OTHER, 50 + card, 0, to).add(role, 1).add(level, 1).bytes();
        sealedRow(card, 3, row, KEY);
    }

    /** Looks, and checks the records that it put, the states, the sign and the screen. */
    void look(String what, int... records) {
        int before = house.show(10);
        check.due(what + ": poll()", house.poll(), records.length);
        check.due(what + ": records put", house.show(10) - before, records.length);
        last(what, records);
    }

    /** Looks, is cut off, and checks the records of that look and those of the start behind it. */
    void cutLook(String what, int answer, int... records) {
        int before = house.show(10);
        check.due(what + ": poll()", house.poll(), answer);
        check.due(what + ": records put", house.show(10) - before, records.length);
        last(what, records);
    }

    void last(String what, int... records) {
        int first = house.show(9) - records.length;
        for (int i = 0; i < records.length; i++) {
            check.due(what + ": record " + i, house.record(first + i, 8), records[i]);
            check.due(what + ": how bad " + records[i] + " is", house.record(first + i, 9), badness(records[i]));
        }
    }

    private static int badness(int record) {
        switch (record) {
            case 24: case 30:
                return 2;
            case 1: case 5: case 7: case 9: case 11: case 13: case 15: case 41: case 43: case 45: case 48:
            case 55: case 58: case 60: case 63: case 70:
                return 1;
            default:
                return 0;
        }
    }

    void outside(String what, int state, int sign) {
        check.due(what + ": state outside", house.show(5), state);
        check.due(what + ": sign", house.show(3), sign);
    }

    void inside(String what, int state, int screen, int role) {
        check.due(what + ": state inside", house.show(6), state);
        check.due(what + ": screen", house.show(4), screen);
        check.due(what + ": role", house.show(7), role);
    }

    /** The newest record's badness, card and serial. */
    void lastTells(String what, int bad, int card, int serial) {
        tells(what, 0, bad, card, serial);
    }

    /** The same of the record so many places before the newest one; all must be of this time. */
    void tells(String what, int before, int bad, int card, int serial) {
        int i = house.show(9) - 1 - before;
        check.due(what + ": time", number(i, 4, 4), house.show(8));
        check.due(what + ": how bad", house.record(i, 9), bad);
        check.due(what + ": card", house.record(i, 10), card);
        check.due(what + ": zero", house.record(i, 11), 0);
        check.due(what + ": serial", number(i, 12, 4), serial & 0xffffffffL);
        check.due(what + ": number", number(i, 0, 4), house.show(10) - 1 - before);
    }

    long number(int i, int k, int width) {
        long value = 0;
        for (int j = 0; j < width; j++) {
            value = value << 8 | house.record(i, k + j);
        }
        return value;
    }

    /** A card with a pass is brought to the inner reader and gets its role. */
    void takeRole(int card, int role) {
        takeRole(card, role, 42);
    }

    /** The same when the records are full: the card's first record makes a block go. */
    void takeRoleOfFull(int card, int role) {
        takeRole(card, role, 30, 42);
    }

    private void takeRole(int card, int role, int... records) {
        soundCard(card, role, 0);
        pass(card, role, 0, LATE);
        house.put(1, card);
        look("role " + role, records);
        inside("role " + role, 3, 2, StationHouse.NONE);
        look("role " + role, 44);
        inside("role " + role, 2, 5, role);
    }

    void press(int key) {
        check.due("key(" + key + ")", house.key(key), true);
        look("key " + key, 50 + key);
        inside("key " + key, 5, 6, house.show(7));
    }

    /** An officer with card 15 brings other settings and leaves. */
    void change(int... values) {
        takeRole(15, 3);
        press(2);
        disk(settings(values));
        look("settings", 59);
        house.noDisk();
        leave();
    }

    void leave() {
        house.put(1, StationHouse.NONE);
        look("leaves", 47);
        inside("leaves", 2, 1, StationHouse.NONE);
    }

    /** A sound card without a pass comes to the outer reader with its finger and on to a state of 1 to 6. */
    void comeTo(int state, int card) {
        int[] records = {2, 4, 6, 8, 10, 12};
        house.put(0, card);
        house.finger(5);
        for (int i = 0; i < state; i++) {
            look("on the way to " + state, records[i]);
        }
        check.due("on the way to " + state, house.show(5), state);
    }

    /** A card with a pass comes, and is to be removed well. */
    void comeWithPass(int card) {
        soundCard(card, 0, 5);
        pass(card, 0, 5, LATE);
        house.put(0, card);
        look("comes with a pass", 2);
        look("comes with a pass", 3);
        look("comes with a pass", 12);
        outside("comes with a pass", 6, 4);
    }

    void openLatch(int card) {
        comeWithPass(card);
        house.put(0, StationHouse.NONE);
        look("latch opens", 14, 22);
        outside("latch opens", 0, 7);
        check.due("latch is open", house.show(0), 1);
    }

    /** Fills the records by a door that opens and closes with an alarm, two records a look. */
    void fillTo(int count) {
        boolean open = true;
        for (int i = 0; i < 60 && house.show(9) < count; i++) {
            house.door(open);
            house.poll();
            open = !open;
        }
        house.door(false);
    }

    /** Fills the records of an enrolled and quiet house to just so many; the door is closed. */
    void fillJust(int count) {
        for (int i = 0; i < 24 && house.show(9) + 4 <= count; i++) {
            house.door(true);
            house.poll();
            house.door(false);
            house.poll();
        }
        for (int i = 0; i < 8 && house.show(9) < count; i++) {
            house.cutAt(0);
            house.poll();
        }
        check.due("filled", house.show(9), count);
    }
}
