import java.util.ArrayList;
import java.util.Arrays;
import java.util.HashMap;
import java.util.List;
import java.util.Map;
import javax.crypto.Mac;
import javax.crypto.spec.SecretKeySpec;

/** The document written down a second time, with the Java library and an exception for a crash. */
final class PlainHouse {
    private static final class PowerGone extends RuntimeException {
        private static final long serialVersionUID = 1L;
    }

    byte[] tape = {};
    byte[] disk;
    final byte[][][] cards = new byte[16][4][0];
    final boolean[] writable = new boolean[16];
    final int[] readers = {-1, -1};
    int finger = -1;
    boolean door;
    boolean doorBefore;
    int key;
    int now;
    int cutAt = -1;

    boolean latch;
    int locksAt;
    int doorTill;
    boolean doorAlarm;
    boolean recordsAlarm;
    int sign;
    int screen = 8;
    int out;
    int in;
    int role = -1;
    int outCard = -1;
    int inCard = -1;
    int meantFinger;
    int till;
    int request;
    byte[] archived;
    List<byte[]> archivedRecords = new ArrayList<>();

    List<byte[]> records = new ArrayList<>();
    int nextNumber = 1;
    int nextPass = 1;
    int own = -1;
    final Map<Integer, byte[]> keys = new HashMap<>();
    int[] settings = {15, 10, 20, 10, 200, 0, 12, 0, 999};
    int put;

    PlainHouse() {
        Arrays.fill(writable, true);
    }

    static long num(byte[] b, int from, int width) {
        long n = 0;
        for (int i = from; i < from + width; i++) {
            n = n * 256 + (b[i] & 255);
        }
        return n;
    }

    static byte[] seal(byte[] text, byte[] key) {
        try {
            Mac mac = Mac.getInstance("HmacSHA256");
            mac.init(new SecretKeySpec(key, "HmacSHA256"));
            return Arrays.copyOf(mac.doFinal(text), 16);
        } catch (java.security.GeneralSecurityException e) {
            throw new IllegalStateException(e);
        }
    }

    // ---- certificates and cards

    boolean right(byte[] row, int kind) {
        if (row.length != (kind == 1 ? 41 : 39) || row[0] != kind) {
            return false;
        }
        if (kind == 1 && num(row, 7, 6) != 0) {
            return false;
        }
        if ((kind == 2 || kind == 4) && ((row[21] & 255) > 3 || (row[22] & 255) > 5)) {
            return false;
        }
        byte[] k = keys.get((int) num(row, 1, 2));
        if (k == null) {
            return false;
        }
        byte[] text = Arrays.copyOf(row, row.length - 16);
        return Arrays.equals(seal(text, k), Arrays.copyOfRange(row, row.length - 16, row.length));
    }

    boolean good(byte[] row, int kind) {
        return right(row, kind) && now >= num(row, 13, 4) && now <= num(row, 17, 4);
    }

    boolean good(int card, int kind) {
        return good(cards[card][kind - 1], kind);
    }

    boolean holds(int card, int kind) {
        return num(cards[card][kind - 1], 7, 6) == num(cards[card][0], 1, 6);
    }

    boolean sound(int card) {
        return good(card, 1) && good(card, 2) && good(card, 3) && holds(card, 2) && holds(card, 3);
    }

    boolean hasPass(int card) {
        return good(card, 4) && num(cards[card][3], 1, 2) == own && good(card, 1) && holds(card, 4);
    }

    // ---- records

    void store(int what, int bad, int card, long serial) {
        Hand.Row row = new Hand.Row().add(nextNumber++, 4).add(now, 4).add(what, 1).add(bad, 1);
        records.add(row.add(card < 0 ? 255 : card, 1).add(0, 1).add(serial, 4).bytes());
        put++;
        if (put == cutAt) {
            throw new PowerGone();
        }
    }

    void putRecord(int what, int bad, int card) {
        if (records.size() == 96) {
            records = new ArrayList<>(records.subList(8, 96));
            recordsAlarm = true;
            store(30, 2, -1, 0);
        }
        store(what, bad, card, card >= 0 && good(card, 1) ? num(cards[card][0], 3, 4) : 0);
    }

    /** An act: its records as what, bad, card; then what it does, even if the power goes with the last. */
    void act(Runnable effect, int... triples) {
        for (int i = 0; i < triples.length; i += 3) {
            boolean last = i == triples.length - 3;
            int before = nextNumber;
            boolean full = records.size() == 96;
            try {
                putRecord(triples[i], triples[i + 1], triples[i + 2]);
            } catch (PowerGone e) {
                if (last && nextNumber - before == (full ? 2 : 1)) {
                    effect.run();
                }
                throw e;
            }
        }
        effect.run();
    }

    // ---- a look

    int poll() {
        put = 0;
        boolean cut = cutAt >= 0;
        try {
            if (in != 7) {
                if (cutAt == 0) {
                    throw new PowerGone();
                }
                look();
            }
        } catch (PowerGone e) {
            // The start is below.
        }
        int answer = put;
        cutAt = -1;
        if (cut) {
            start();
            return -2 - answer;
        }
        return answer;
    }

    void start() {
        boolean enrolled = own >= 0;
        latch = false;
        doorAlarm = false;
        doorTill = 0;
        doorBefore = door;
        out = 0;
        sign = enrolled ? 1 : 0;
        in = enrolled ? 2 : 0;
        screen = enrolled ? 1 : 8;
        role = -1;
        if (enrolled) {
            putRecord(70, 1, -1);
        }
    }

    void look() {
        boolean was = doorBefore;
        doorBefore = door;
        if (was != door) {
            putRecord(door ? 20 : 21, 0, -1);
        }
        watch();
        if (out != 0) {
            if (!outside()) {
                inside();
            }
        } else if (!inside()) {
            outside();
        }
        watch();
    }

    void watch() {
        if (latch && now >= locksAt) {
            latch = false;
            sign = sign == 7 ? 1 : sign;
            putRecord(23, 0, -1);
        }
        boolean on = door && !latch && now >= doorTill;
        if (on != doorAlarm) {
            doorAlarm = on;
            putRecord(on ? 24 : 25, on ? 2 : 0, -1);
        }
    }

    void opens() {
        latch = true;
        locksAt = now + settings[0];
        doorTill = locksAt + settings[1];
        sign = 7;
    }

    void to(int state, int newSign) {
        out = state;
        sign = newSign;
    }

    boolean outside() {
        int seen = readers[0];
        if (in < 2) {
            return false;
        }
        int c = outCard;
        if (out >= 1 && out <= 5 && seen != c) {
            act(() -> to(0, 1), 1, 1, c);
            return true;
        }
        if (out == 0) {
            if (seen < 0) {
                return false;
            }
            act(() -> { to(1, 3); outCard = seen; }, 2, 0, seen);
        } else if (out == 1) {
            if (hasPass(c)) {
                act(() -> to(5, 3), 3, 0, c);
            } else if (sound(c)) {
                act(() -> { to(2, 2); till = now + settings[2]; }, 4, 0, c);
            } else {
                act(() -> to(7, 5), 5, 1, c);
            }
        } else if (out == 2) {
            if (finger >= 0) {
                act(() -> { to(3, 3); meantFinger = finger; }, 6, 0, c);
            } else if (now > till) {
                act(() -> to(7, 5), 7, 1, c);
            } else {
                return false;
            }
        } else if (out == 3) {
            if (good(c, 3) && score(meantFinger, (int) num(cards[c][2], 21, 2)) >= settings[6]) {
                act(() -> to(4, 3), 8, 0, c);
            } else {
                act(() -> to(7, 5), 9, 1, c);
            }
        } else if (out == 4) {
            write(c);
        } else if (out == 5) {
            enter(c);
        } else if (out == 6) {
            if (seen < 0) {
                act(() -> { out = 0; opens(); }, 14, 0, c, 22, 0, c);
            } else if (now > till) {
                act(() -> to(7, 5), 15, 1, c);
            } else {
                return false;
            }
        } else {
            if (seen >= 0) {
                return false;
            }
            act(() -> to(0, 1), 16, 0, c);
        }
        return true;
    }

    static int score(int a, int b) {
        int alike = 0;
        for (int i = 0; i < 16; i++) {
            alike += (a >> i & 1) == (b >> i & 1) ? 1 : 0;
        }
        return alike;
    }

    void write(int c) {
        if (!sound(c)) {
            act(() -> to(7, 5), 5, 1, c);
        } else if (!writable[c]) {
            act(() -> to(5, 6), 11, 1, c);
        } else {
            byte[][] card = cards[c];
            byte[] text = new Hand.Row().add(4, 1).add(own, 2).add(nextPass, 4).add(num(card[0], 1, 2), 2)
                    .add(num(card[0], 3, 4), 4).add(now, 4).add(now + settings[4], 4)
                    .add(card[1][21], 1).add(card[1][22], 1).bytes();
            byte[] seal = seal(text, keys.get(own));
            byte[] pass = Arrays.copyOf(text, 39);
            System.arraycopy(seal, 0, pass, 23, 16);
            act(() -> { to(5, 3); card[3] = pass; nextPass++; }, 10, 0, c);
        }
    }

    void enter(int c) {
        int level = hasPass(c) ? cards[c][3][22] : sound(c) ? cards[c][1][22] : -1;
        int t = now % 1000;
        boolean time = false;
        for (int at = settings[7], steps = 0; steps < 1000; at = (at + 1) % 1000, steps++) {
            time |= at == t;
            if (at == settings[8]) {
                break;
            }
        }
        if (level >= settings[5] && time) {
            act(() -> { to(6, 4); till = now + settings[3]; }, 12, 0, c);
        } else {
            act(() -> to(7, 5), 13, 1, c);
        }
    }

    // ---- inside

    void at(int state, int newScreen) {
        in = state;
        screen = newScreen;
    }

    boolean inside() {
        int seen = readers[1];
        int c = inCard;
        if (in == 0) {
            if (disk == null) {
                return false;
            }
            enrol();
        } else if (in == 1) {
            if (disk != null) {
                return false;
            }
            at(0, 8);
        } else if (in == 2 && role < 0) {
            if (seen < 0) {
                return false;
            }
            act(() -> { at(3, 2); inCard = seen; }, 42, 0, seen);
        } else if (in == 3) {
            if (seen != c) {
                act(() -> at(2, 1), 43, 1, c);
            } else if (hasPass(c) && cards[c][3][21] != 0) {
                act(() -> { at(2, 5); role = cards[c][3][21]; }, 44, 0, c);
            } else {
                act(() -> at(4, 4), 45, 1, c);
            }
        } else if (in == 4) {
            if (seen >= 0) {
                return false;
            }
            act(() -> at(2, 1), 46, 0, c);
        } else if (seen != c) {
            act(() -> { at(2, 1); role = -1; }, 47, 0, c);
        } else if (!hasPass(c) || cards[c][3][21] != role) {
            act(() -> { at(4, 4); role = -1; }, 48, 1, c);
        } else if (in == 2) {
            return chooses(c);
        } else {
            return works(c);
        }
        return true;
    }

    void enrol() {
        Map<Integer, byte[]> had = new HashMap<>();
        int n = disk.length > 19 ? disk[19] & 255 : 99;
        boolean fits = n <= 6 && disk.length == 20 + 18 * n && disk[0] == 69;
        if (fits) {
            had.put((int) num(disk, 1, 2), Arrays.copyOfRange(disk, 3, 19));
            for (int at = 20; at < disk.length; at += 18) {
                had.put((int) num(disk, at, 2), Arrays.copyOfRange(disk, at + 2, at + 18));
            }
        }
        if (fits && had.size() == n + 1) {
            int issuer = (int) num(disk, 1, 2);
            act(() -> { keys.clear(); keys.putAll(had); own = issuer; at(2, 1); sign = 1; }, 40, 0, -1);
        } else {
            act(() -> at(1, 9), 41, 1, -1);
        }
    }

    boolean chooses(int c) {
        int pressed = key;
        if (pressed == 0) {
            return false;
        }
        int[] whose = {-1, 2, 3, 1, 3};
        if (whose[pressed] == role) {
            act(() -> { key = 0; request = pressed; at(5, 6); }, 50 + pressed, 0, c);
        } else {
            act(() -> { key = 0; screen = 3; }, 55, 1, c);
        }
        return true;
    }

    boolean works(int c) {
        if (in == 6) {
            int n = archivedRecords.size();
            boolean same = disk != null && Arrays.equals(disk, archived) && records.size() >= n
                    && records.subList(0, n).equals(archivedRecords);
            if (same) {
                act(() -> {
                    at(2, 5);
                    records.removeAll(archivedRecords);
                    recordsAlarm &= records.size() >= 64;
                }, 57, 0, c);
            } else {
                act(() -> at(2, 11), 58, 1, c);
            }
        } else if (request <= 2 && disk == null) {
            boolean asks = screen == 7;
            screen = 7;
            return !asks;
        } else if (request == 1) {
            act(() -> { at(6, 6); archive(); }, 56, 0, c);
        } else if (request == 2) {
            int[] read = settingsOf(disk);
            act(() -> { at(2, read == null ? 10 : 5); settings = read == null ? settings : read; },
                    read == null ? 60 : 59, read == null ? 1 : 0, c);
        } else if (request == 3) {
            act(() -> { at(2, 5); opens(); }, 61, 0, c, 22, 0, c);
        } else if (door) {
            act(() -> at(2, 5), 63, 1, c);
        } else {
            Runnable shut = () -> { latch = false; doorAlarm = false; to(0, 0); at(7, 12); role = -1; };
            if (latch) {
                act(shut, 23, 0, -1, 62, 0, c);
            } else {
                act(shut, 62, 0, c);
            }
        }
        return true;
    }

    void archive() {
        archivedRecords = new ArrayList<>(records.subList(0, Math.min(24, records.size())));
        byte[] row = new byte[1 + 16 * archivedRecords.size()];
        row[0] = 82;
        for (int i = 0; i < archivedRecords.size(); i++) {
            System.arraycopy(archivedRecords.get(i), 0, row, 1 + 16 * i, 16);
        }
        archived = row;
        disk = row.clone();
    }

    static int[] settingsOf(byte[] d) {
        if (d.length != 17 || d[0] != 83) {
            return null;
        }
        int[] s = new int[9];
        int[] from = {1, 3, 5, 7, 9, 11, 12, 13, 15, 17};
        for (int i = 0; i < 9; i++) {
            s[i] = (int) num(d, from[i], from[i + 1] - from[i]);
        }
        boolean good = s[5] <= 5 && s[6] <= 16 && s[7] <= 999 && s[8] <= 999;
        for (int i = 0; i < 5; i++) {
            good &= s[i] >= 1 && s[i] <= 10000;
        }
        return good ? s : null;
    }

    int show(int what) {
        int[] shown = {latch ? 1 : 0, doorAlarm ? 1 : 0, recordsAlarm ? 1 : 0, sign, screen, out, in, role, now,
            records.size(), nextNumber, nextPass, own, keys.size()};
        return what < 14 ? shown[what] : settings[what - 14];
    }
}
