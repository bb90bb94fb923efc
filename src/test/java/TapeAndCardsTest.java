import java.util.Arrays;
import java.util.Random;
import javax.crypto.Mac;
import javax.crypto.spec.SecretKeySpec;

/** Promises 1 to 7, 10, 11 and 18 to 20: the tape, seals, cards and disks. */
final class TapeAndCardsTest {
    private static final Check CHECK = new Check();

    public static void main(String[] args) throws Exception {
        newObject();
        feedAndCut();
        sealsAsPublished();
        sealsLikeTheLibrary();
        cards();
        readers();
        disks();
        CHECK.end();
    }

    private static void newObject() {
        StationHouse x = new StationHouse();
        int[] due = {0, 0, 0, 0, 8, 0, 0, -1, 0, 0, 1, 1, -1, 0, 15, 10, 20, 10, 200, 0, 12, 0, 999, -1};
        for (int i = 0; i < due.length; i++) {
            CHECK.due("new: show(" + i + ")", x.show(i), due[i]);
        }
        CHECK.due("show(-1)", x.show(-1), -1);
        CHECK.due("show(least)", x.show(Integer.MIN_VALUE), -1);
        CHECK.due("show(most)", x.show(Integer.MAX_VALUE), -1);
        for (int c = 0; c < 16; c++) {
            for (int place = 0; place < 4; place++) {
                CHECK.due("new: size", x.size(c, place), 0);
                CHECK.due("new: at", x.at(c, place, 0), -1);
            }
        }
        CHECK.due("new: diskAt(0)", x.diskAt(0), -1);
        CHECK.due("new: record(0, 0)", x.record(0, 0), -1);
        CHECK.due("new: noDisk()", x.noDisk(), false);
        CHECK.due("new: poll()", x.poll(), 0);
        CHECK.due("NONE", StationHouse.NONE, -1);
    }

    private static void feedAndCut() {
        StationHouse x = new StationHouse();
        CHECK.due("cut(0) of nothing", x.cut(0), 0);
        CHECK.due("cut(1) of nothing", x.cut(1), -1);
        for (int i = 1; i <= 20; i++) {
            CHECK.due("feed", x.feed(0x01020384, -2, 0, 7, i), 20 * i);
        }
        CHECK.due("feed over 400", x.feed(1, 2, 3, 4, 5), -1);
        CHECK.due("cut(-1)", x.cut(-1), -1);
        CHECK.due("cut(401)", x.cut(401), -1);
        CHECK.due("cut(400)", x.cut(400), 0);
        CHECK.due("cut(381)", x.cut(381), 19);
        CHECK.due("feed to 401", x.feed(0, 0, 0, 0, 0), -1);
        CHECK.due("cut(380)", x.cut(380), 1);
        CHECK.due("feed to 400", x.feed(0, 0, 0, 0, 0x7f80ff01), 400);
        CHECK.due("disk()", x.disk(), 400);
        int[] head = {1, 2, 3, 0x84, 255, 255, 255, 254, 0, 0, 0, 0, 0, 0, 0, 7, 0, 0, 0, 1};
        for (int i = 0; i < head.length; i++) {
            CHECK.due("fed byte " + i, x.diskAt(i), head[i]);
        }
        CHECK.due("fed byte 396", x.diskAt(396), 0x7f);
        CHECK.due("fed byte 399", x.diskAt(399), 1);
        CHECK.due("diskAt(400)", x.diskAt(400), -1);
        CHECK.due("diskAt(-1)", x.diskAt(-1), -1);
        CHECK.due("tape used up", x.cut(0), 0);
        CHECK.due("tape used up", x.cut(1), -1);
    }

    private static void sealsAsPublished() {
        // RFC 4231's second case, whose key "Jefe" is filled with 0s just as a longer one is.
        StationHouse x = new StationHouse();
        Hand hand = new Hand(CHECK);
        hand.tape("what do ya want for nothing?".getBytes());
        hand.house.seal(0x4a656665, 0, 0, 0);
        hand.house.disk();
        int[] due = {0x5b, 0xdc, 0xc1, 0x46, 0xbf, 0x60, 0x75, 0x4e, 0x6a, 0x04, 0x24, 0x26, 0x08, 0x95, 0x75, 0xc7};
        for (int i = 0; i < due.length; i++) {
            CHECK.due("published seal", hand.house.diskAt(28 + i), due[i]);
        }
        CHECK.due("published seal's end", hand.house.diskAt(44), -1);
        CHECK.due("seal of nothing", x.seal(0, 0, 0, 0), 16);
        for (int i = 0; i < 19; i++) {
            x.feed(0, 0, 0, 0, 0);
        }
        CHECK.due("seal from 396", x.seal(0, 0, 0, 0), -1);
        CHECK.due("cut(385)", x.cut(385), 11);
        CHECK.due("seal from 385", x.seal(0, 0, 0, 0), -1);
        CHECK.due("cut(384)", x.cut(384), 1);
        CHECK.due("seal from 384", x.seal(0, 0, 0, 0), 400);
    }

    private static void sealsLikeTheLibrary() throws Exception {
        Random random = new Random(5);
        Hand hand = new Hand(CHECK);
        for (int length = 0; length <= 384; length++) {
            byte[] text = new byte[length];
            random.nextBytes(text);
            int[] key = {random.nextInt(), random.nextInt(), random.nextInt(), random.nextInt()};
            hand.tape(text);
            CHECK.due("seal", hand.house.seal(key[0], key[1], key[2], key[3]), length + 16);
            hand.house.disk();
            Mac mac = Mac.getInstance("HmacSHA256");
            mac.init(new SecretKeySpec(new Hand.Row().key(key).bytes(), "HmacSHA256"));
            byte[] due = Arrays.copyOf(mac.doFinal(text), 16);
            for (int i = 0; i < 16; i++) {
                CHECK.due("seal of " + length, hand.house.diskAt(length + i), due[i] & 255);
            }
        }
    }

    private static void cards() {
        StationHouse x = new StationHouse();
        x.feed(0x01ff0000, 0, 0, 0, 9);
        CHECK.due("card(15, 3)", x.card(15, 3), true);
        CHECK.due("size(15, 3)", x.size(15, 3), 20);
        CHECK.due("at(15, 3, 1)", x.at(15, 3, 1), 255);
        CHECK.due("at(15, 3, 19)", x.at(15, 3, 19), 9);
        CHECK.due("at(15, 3, 20)", x.at(15, 3, 20), -1);
        CHECK.due("at(15, 3, -1)", x.at(15, 3, -1), -1);
        int[][] none = {{-1, 0}, {16, 0}, {0, -1}, {0, 4}, {Integer.MIN_VALUE, 0}, {0, Integer.MAX_VALUE}};
        for (int[] c : none) {
            CHECK.due("size of none", x.size(c[0], c[1]), -1);
            CHECK.due("at of none", x.at(c[0], c[1], 0), -1);
            x.feed(1, 1, 1, 1, 1);
            CHECK.due("card of none", x.card(c[0], c[1]), false);
            CHECK.due("tape used up by what is refused", x.cut(1), -1);
        }
        for (int length = 48; length <= 49; length++) {
            x.feed(1, 1, 1, 1, 1);
            x.feed(1, 1, 1, 1, 1);
            x.feed(1, 1, 1, 1, 1);
            x.cut(length);
            CHECK.due("card(0, 0) of " + length, x.card(0, 0), length == 48);
            CHECK.due("size", x.size(0, 0), 48);
            CHECK.due("tape used up", x.cut(1), -1);
        }
        CHECK.due("card of nothing", x.card(0, 0), true);
        CHECK.due("size of nothing", x.size(0, 0), 0);
        CHECK.due("writable(0)", x.writable(0, false), true);
        CHECK.due("writable(15)", x.writable(15, true), true);
        CHECK.due("writable(16)", x.writable(16, true), false);
        CHECK.due("writable(-1)", x.writable(-1, true), false);
    }

    private static void readers() {
        StationHouse x = new StationHouse();
        CHECK.due("put(0, 0)", x.put(0, 0), true);
        CHECK.due("put(0, 0) again", x.put(0, 0), true);
        CHECK.due("put(1, 0)", x.put(1, 0), false);
        CHECK.due("put(1, 15)", x.put(1, 15), true);
        CHECK.due("put(0, 15)", x.put(0, 15), false);
        CHECK.due("put(0, 16)", x.put(0, 16), false);
        CHECK.due("put(0, -2)", x.put(0, -2), false);
        CHECK.due("put(2, 1)", x.put(2, 1), false);
        CHECK.due("put(-1, 1)", x.put(-1, 1), false);
        CHECK.due("put(2, NONE)", x.put(2, -1), false);
        CHECK.due("put(0, NONE)", x.put(0, -1), true);
        CHECK.due("put(0, NONE) again", x.put(0, -1), true);
        CHECK.due("put(1, NONE)", x.put(1, -1), true);
        CHECK.due("put(1, NONE) again", x.put(1, -1), true);
        CHECK.due("put(1, 0) then", x.put(1, 0), true);
    }

    private static void disks() {
        StationHouse x = new StationHouse();
        CHECK.due("disk() of nothing", x.disk(), 0);
        CHECK.due("diskAt(0)", x.diskAt(0), -1);
        CHECK.due("noDisk()", x.noDisk(), true);
        CHECK.due("noDisk() again", x.noDisk(), false);
        x.feed(0x11000000, 0, 0, 0, 0);
        CHECK.due("disk()", x.disk(), 20);
        CHECK.due("diskAt(0)", x.diskAt(0), 0x11);
        x.feed(0x22000000, 0, 0, 0, 0);
        x.cut(1);
        CHECK.due("disk() in its place", x.disk(), 1);
        CHECK.due("diskAt(0)", x.diskAt(0), 0x22);
        CHECK.due("diskAt(1)", x.diskAt(1), -1);
        x.noDisk();
        CHECK.due("diskAt(0) without one", x.diskAt(0), -1);
    }
}
