/** Promise 15, part 6 of the terms: enrolment and the work at the desk. Promises 10 to 12, 16 and 20 serve it. */
final class InsideTest {
    private static final Check CHECK = new Check();

    public static void main(String[] args) {
        enrolments();
        badEnrolments();
        roles();
        roleEnds();
        requests();
        settings();
        badSettings();
        unlocks();
        shuts();
        archives();
        CHECK.end();
    }

    private static Hand enrolled() {
        Hand hand = new Hand(CHECK);
        hand.enrol();
        return hand;
    }

    private static Hand.Row issuers(int... issuers) {
        Hand.Row row = new Hand.Row().add(69, 1).add(issuers[0], 2).key(Hand.KEY).add(issuers.length - 1, 1);
        for (int i = 1; i < issuers.length; i++) {
            row.add(issuers[i], 2).key(Hand.OTHER_KEY);
        }
        return row;
    }

    private static void enrolments() {
        int[][] right = {{1}, {0xffff, 0}, {7, 6, 5, 4, 3, 2, 1}};
        for (int[] those : right) {
            Hand h = new Hand(CHECK);
            h.house.put(0, 1);
            h.house.put(1, 2);
            h.look("not enrolled");
            h.disk(issuers(those).bytes());
            h.look("enrolment", 40);
            h.lastTells("enrolment", 0, 255, 0);
            h.inside("enrolment", 2, 1, -1);
            h.outside("enrolment", 0, 1);
            CHECK.due("own issuer", h.house.show(12), those[0]);
            CHECK.due("keys", h.house.show(13), those.length);
        }
    }

    private static void badEnrolments() {
        Hand.Row behind = issuers(1, 2).add(0, 1);
        byte[][] wrong = {
            new byte[0], behind.bytes(), issuers(1, 1).bytes(), issuers(1, 2, 3, 2).bytes(),
            issuers(1, 2, 3, 4, 5, 6, 7, 8).bytes(), new Hand.Row().add(83, 1).add(1, 2).key(Hand.KEY).add(0, 1).bytes(),
            new Hand.Row().add(69, 1).add(1, 2).key(Hand.KEY).bytes(),
            new Hand.Row().add(69, 1).add(1, 2).key(Hand.KEY).add(1, 1).bytes(),
            new Hand.Row().add(69, 1).add(1, 2).key(Hand.KEY).add(255, 1).bytes()
        };
        Hand h = new Hand(CHECK);
        for (byte[] row : wrong) {
            h.disk(row);
            h.look("bad enrolment", 41);
            h.lastTells("bad enrolment", 1, 255, 0);
            h.inside("bad enrolment", 1, 9, -1);
            h.disk(issuers(1).bytes());
            h.look("the disk must go first");
            h.house.noDisk();
            h.look("disk goes");
            h.inside("disk goes", 0, 8, -1);
            CHECK.due("keys", h.house.show(13), 0);
            CHECK.due("own issuer", h.house.show(12), -1);
        }
        h.enrol();
    }

    private static void roles() {
        Hand h = enrolled();
        for (int role = 1; role <= 3; role++) {
            h.takeRole(role, role);
            h.lastTells("role", 0, role, 50 + role);
            h.look("no key");
            h.house.put(1, -1);
            h.look("leaves", 47);
            h.lastTells("leaves", 0, role, 50 + role);
            h.inside("leaves", 2, 1, -1);
        }
        h.soundCard(5, 3, 0);
        h.pass(5, 0, 0, Hand.LATE);
        h.house.put(1, 5);
        h.look("guest", 42);
        h.look("guest has no role", 45);
        h.lastTells("guest has no role", 1, 5, 55);
        h.inside("guest has no role", 4, 4, -1);
        h.house.put(1, 6);
        h.look("another card is no removal");
        h.house.put(1, -1);
        h.look("removed", 46);
        h.lastTells("removed", 0, 5, 55);
        h.inside("removed", 2, 1, -1);
        for (int other = -1; other <= 7; other += 8) {
            h.house.put(1, 5);
            h.look("card", 42);
            h.house.put(1, other);
            h.look("goes before it is read", 43);
            h.lastTells("goes before it is read", 1, 5, 55);
            h.inside("goes before it is read", 2, 1, -1);
        }
    }

    private static void roleEnds() {
        // In quiet, where a request starts, and where an archive ends.
        for (int where = 0; where < 3; where++) {
            for (int how = 0; how < 4; how++) {
                Hand h = enrolled();
                h.takeRole(4, 2);
                if (where > 0) {
                    h.press(1);
                }
                if (where > 1) {
                    h.disk(new byte[3]);
                    h.look("archive", 56);
                    h.inside("archive", 6, 6, 2);
                }
                boolean goes = how < 2;
                if (goes) {
                    h.house.put(1, how == 0 ? -1 : 8);
                } else {
                    h.pass(4, how == 2 ? 3 : 2, 0, how == 2 ? Hand.LATE : 5);
                    h.house.tick(6);
                }
                h.house.key(1);
                h.look("role ends", goes ? 47 : 48);
                h.lastTells("role ends", goes ? 0 : 1, 4, 54);
                h.inside("role ends", goes ? 2 : 4, goes ? 1 : 4, -1);
            }
        }
    }

    private static void requests() {
        int[] mayDo = {0, 2, 3, 1, 3};
        for (int role = 1; role <= 3; role++) {
            for (int key = 1; key <= 4; key++) {
                Hand h = enrolled();
                h.house.key(key);
                h.takeRole(2, role);
                boolean may = mayDo[key] == role;
                h.look("key", may ? 50 + key : 55);
                h.lastTells("key", may ? 0 : 1, 2, 52);
                h.inside("key", may ? 5 : 2, may ? 6 : 3, role);
                if (!may) {
                    h.look("the key is none then");
                }
            }
        }
    }

    private static void settings() {
        Hand h = enrolled();
        h.takeRole(2, 3);
        h.press(2);
        h.look("no disk");
        h.inside("no disk", 5, 7, 3);
        h.house.put(0, 9);
        h.look("asking again is no act", 2);
        int[] values = {10000, 1, 300, 257, 9999, 5, 16, 999, 0};
        h.disk(Hand.settings(values));
        h.look("outside first", 5);
        h.look("settings", 59);
        h.lastTells("settings", 0, 2, 52);
        h.inside("settings", 2, 5, 3);
        for (int i = 0; i < values.length; i++) {
            CHECK.due("setting " + i, h.house.show(14 + i), values[i]);
        }
    }

    private static void badSettings() {
        int[] good = {15, 10, 20, 10, 200, 0, 12, 0, 999};
        int[] above = {10001, 10001, 10001, 65535, 10001, 6, 17, 1000, 1000};
        Hand h = enrolled();
        h.takeRole(2, 3);
        for (int i = 0; i < 14 + 4; i++) {
            byte[] row;
            if (i < 9) {
                int[] values = good.clone();
                values[i] = above[i];
                row = Hand.settings(values);
            } else if (i < 14) {
                int[] values = good.clone();
                values[i - 9] = 0;
                row = Hand.settings(values);
            } else {
                byte[][] others = {new byte[0], java.util.Arrays.copyOf(Hand.settings(good), 16),
                    java.util.Arrays.copyOf(Hand.settings(good), 18), Hand.enrolment()};
                row = others[i - 14];
            }
            h.disk(row);
            h.press(2);
            h.look("bad settings " + i, 60);
            h.lastTells("bad settings", 1, 2, 52);
            h.inside("bad settings", 2, 10, 3);
            for (int j = 0; j < 9; j++) {
                CHECK.due("setting " + j, h.house.show(14 + j), good[j]);
            }
        }
    }

    private static void unlocks() {
        Hand h = enrolled();
        h.takeRole(2, 1);
        h.soundCard(1, 0, 0);
        h.house.put(0, 1);
        h.look("card outside", 2);
        h.look("sound", 4);
        h.press(3);
        h.look("unlock", 61, 22);
        h.lastTells("unlock", 0, 2, 52);
        h.inside("unlock", 2, 5, 1);
        h.outside("unlock", 2, 7);
        CHECK.due("latch", h.house.show(0), 1);
        h.house.tick(5);
        h.press(3);
        h.look("unlock again", 61, 22);
        h.house.tick(14);
        h.look("open from the second time on");
        h.house.tick(1);
        h.look("locks", 23);
        h.outside("sign 7 becomes 1", 2, 1);
    }

    private static void shuts() {
        Hand h = enrolled();
        h.takeRole(2, 1);
        h.press(3);
        h.look("unlock", 61, 22);
        h.house.door(true);
        h.house.put(1, -1);
        h.look("leaves", 20, 47);
        h.takeRole(3, 3);
        h.press(4);
        h.look("not shut with an open door", 63);
        h.lastTells("not shut", 1, 3, 53);
        h.inside("not shut", 2, 5, 3);
        h.house.door(false);
        h.house.key(4);
        h.look("closed", 21, 54);
        h.look("shut", 23, 62);
        h.lastTells("shut", 0, 3, 53);
        h.inside("shut", 7, 12, -1);
        h.outside("shut", 0, 0);
        CHECK.due("latch", h.house.show(0), 0);
        h.house.door(true);
        h.house.put(0, 5);
        h.house.tick(50);
        h.look("a shut house does nothing");
        h.house.cutAt(3);
        h.cutLook("but may be cut off", -2, 70);
        h.lastTells("start", 1, 255, 0);
        h.inside("start", 2, 1, -1);
        h.outside("start", 0, 1);
        h.look("the card that stayed at the reader", 24, 42);
        Hand g = enrolled();
        g.soundCard(1, 0, 0);
        g.takeRole(3, 3);
        g.house.put(0, 1);
        g.look("card outside", 2);
        g.look("sound", 4);
        g.press(4);
        g.look("shut with a locked latch", 62);
        g.outside("outside is quiet", 0, 0);
    }

    private static void archives() {
        Hand h = enrolled();
        h.takeRole(2, 2);
        h.press(1);
        h.look("no disk");
        h.inside("no disk", 5, 7, 2);
        h.look("still none");
        h.disk(new byte[400]);
        h.look("writes", 56);
        h.inside("writes", 6, 6, 2);
        diskHas(h, 5);
        h.look("clears", 57);
        h.lastTells("clears", 0, 2, 52);
        h.inside("clears", 2, 5, 2);
        CHECK.due("one record is left", h.house.show(9), 1);
        CHECK.due("its number", h.number(0, 0, 4), 6);
        CHECK.due("the next number", h.house.show(10), 7);
        h.fillTo(40);
        h.press(1);
        h.look("writes", 56);
        diskHas(h, 24);
        int left = h.house.show(9) + 1 - 24;
        h.look("clears", 57);
        CHECK.due("24 are cleared", h.house.show(9), left);
        badDisks(h);
    }

    private static void diskHas(Hand h, int records) {
        CHECK.due("mark", h.house.diskAt(0), 82);
        for (int i = 0; i < records * 16; i++) {
            CHECK.due("disk's byte", h.house.diskAt(1 + i), h.house.record(i / 16, i % 16));
        }
        CHECK.due("disk's end", h.house.diskAt(1 + records * 16), -1);
    }

    private static void badDisks(Hand h) {
        for (int how = 0; how < 5; how++) {
            h.press(1);
            h.disk(new byte[1]);
            h.look("writes", 56);
            int length = 0;
            while (h.house.diskAt(length) >= 0) {
                length++;
            }
            byte[] same = new byte[length];
            for (int i = 0; i < length; i++) {
                same[i] = (byte) h.house.diskAt(i);
            }
            byte[][] disks = {same, java.util.Arrays.copyOf(same, length - 1), java.util.Arrays.copyOf(same, length + 1), same.clone()};
            disks[3][length - 1] ^= 1;
            if (how < 4) {
                h.disk(disks[how]);
            } else {
                h.house.noDisk();
            }
            int before = h.house.show(9);
            h.look("disk " + how, how == 0 ? 57 : 58);
            h.inside("disk " + how, 2, how == 0 ? 5 : 11, 2);
            if (how > 0) {
                h.lastTells("disk " + how, 1, 2, 52);
                CHECK.due("nothing is cleared", h.house.show(9), before + 1);
            }
        }
    }
}
