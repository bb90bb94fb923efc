/**
 * A house at the door of a guarded room: cards and fingers are looked at before the latch opens,
 * people with a role work at a desk inside, and all that happens is put into records.
 *
 * <p>Every number that a record, a state, a sign or a screen has is the document's own number.
 */
public final class StationHouse {
    public static final int NONE = -1;

    private static final int TAPE_LIMIT = 400;
    private static final int ROW_LIMIT = 48;
    private static final int CARD_COUNT = 16;
    private static final int PLACE_COUNT = 4;
    private static final int SEAL_LENGTH = 16;
    private static final int TIME_LIMIT = 2000000000;
    private static final int TICK_LIMIT = 100000;
    private static final int FINGER_LIMIT = 65535;
    private static final int CUT_LIMIT = 10;
    private static final int KEY_COUNT = 4;
    private static final int DAY = 1000;
    private static final int CUT_OFF_ANSWER = -2;

    // A certificate's kind is its place on a card and one more.
    private static final int WHO = 0;
    private static final int RIGHT = 1;
    private static final int FINGER = 2;
    private static final int PASS = 3;

    private static final int AT_KIND = 0;
    private static final int AT_ISSUER = 1;
    private static final int AT_SERIAL = 3;
    private static final int AT_HOLDER = 7;
    private static final int AT_FROM = 13;
    private static final int AT_TO = 17;
    private static final int AT_BODY = 21;
    private static final int AT_ROLE = 21;
    private static final int AT_CLASS = 22;
    private static final int HOLDER_LENGTH = 6;

    private static final int GUEST = 0;
    private static final int GUARD = 1;
    private static final int KEEPER = 2;
    private static final int OFFICER = 3;
    private static final int HIGHEST_CLASS = 5;

    private static final int ARCHIVE = 1;
    private static final int CHANGE_SETTINGS = 2;
    private static final int UNLOCK = 3;
    private static final int SHUT_DOWN = 4;

    private static final int FINE = 0;
    private static final int WARNING = 1;
    private static final int CRITICAL = 2;

    private static final int OUT_QUIET = 0;
    private static final int OUT_GOT_CARD = 1;
    private static final int OUT_WAITS_FOR_FINGER = 2;
    private static final int OUT_GOT_FINGER = 3;
    private static final int OUT_WRITES = 4;
    private static final int OUT_WAITS_FOR_ENTRY = 5;
    private static final int OUT_REMOVE_WELL = 6;
    private static final int OUT_REMOVE_ILL = 7;

    private static final int IN_NOT_ENROLLED = 0;
    private static final int IN_BAD_ENROLMENT = 1;
    private static final int IN_QUIET = 2;
    private static final int IN_GOT_CARD = 3;
    private static final int IN_REMOVE = 4;
    private static final int IN_STARTS = 5;
    private static final int IN_ENDS = 6;
    private static final int IN_SHUT = 7;

    private static final int SIGN_BLANK = 0;
    private static final int SIGN_WELCOME = 1;
    private static final int SIGN_FINGER = 2;
    private static final int SIGN_WAIT = 3;
    private static final int SIGN_OPEN_DOOR = 4;
    private static final int SIGN_REMOVE_CARD = 5;
    private static final int SIGN_PASS_NOT_WRITTEN = 6;
    private static final int SIGN_UNLOCKED = 7;

    private static final int SCREEN_WELCOME = 1;
    private static final int SCREEN_WAIT = 2;
    private static final int SCREEN_BAD_REQUEST = 3;
    private static final int SCREEN_REMOVE_CARD = 4;
    private static final int SCREEN_CHOOSE = 5;
    private static final int SCREEN_BUSY = 6;
    private static final int SCREEN_INSERT_DISK = 7;
    private static final int SCREEN_ENROL = 8;
    private static final int SCREEN_BAD_ENROLMENT = 9;
    private static final int SCREEN_BAD_SETTINGS = 10;
    private static final int SCREEN_BAD_DISK = 11;
    private static final int SCREEN_CLOSED = 12;

    private static final int REC_CARD_GONE = 1;
    private static final int REC_CARD_SEEN = 2;
    private static final int REC_HAS_PASS = 3;
    private static final int REC_SOUND = 4;
    private static final int REC_BAD_CARD = 5;
    private static final int REC_FINGER_SEEN = 6;
    private static final int REC_NO_FINGER = 7;
    private static final int REC_FINGER_RIGHT = 8;
    private static final int REC_FINGER_WRONG = 9;
    private static final int REC_PASS_WRITTEN = 10;
    private static final int REC_PASS_NOT_WRITTEN = 11;
    private static final int REC_MAY_ENTER = 12;
    private static final int REC_MAY_NOT_ENTER = 13;
    private static final int REC_CARD_REMOVED = 14;
    private static final int REC_CARD_LEFT = 15;
    private static final int REC_ILL_CARD_REMOVED = 16;
    private static final int REC_DOOR_OPENED = 20;
    private static final int REC_DOOR_CLOSED = 21;
    private static final int REC_UNLOCKED = 22;
    private static final int REC_LOCKED = 23;
    private static final int REC_ALARM_BEGINS = 24;
    private static final int REC_ALARM_ENDS = 25;
    private static final int REC_BLOCK_LOST = 30;
    private static final int REC_ENROLLED = 40;
    private static final int REC_BAD_ENROLMENT = 41;
    private static final int REC_IN_CARD_SEEN = 42;
    private static final int REC_IN_CARD_GONE = 43;
    private static final int REC_ROLE_TAKEN = 44;
    private static final int REC_NO_ROLE = 45;
    private static final int REC_IN_CARD_REMOVED = 46;
    private static final int REC_ROLE_LEFT = 47;
    private static final int REC_ROLE_LOST = 48;
    private static final int REC_REQUEST = 50;
    private static final int REC_BAD_REQUEST = 55;
    private static final int REC_ARCHIVE_WRITTEN = 56;
    private static final int REC_ARCHIVED = 57;
    private static final int REC_NOT_ARCHIVED = 58;
    private static final int REC_SETTINGS = 59;
    private static final int REC_BAD_SETTINGS = 60;
    private static final int REC_GUARD_UNLOCKS = 61;
    private static final int REC_SHUT = 62;
    private static final int REC_NOT_SHUT = 63;
    private static final int REC_START = 70;

    private static final int UNLOCKED = 0;
    private static final int SILENT = 1;
    private static final int WAIT = 2;
    private static final int REMOVE = 3;
    private static final int HOLD = 4;
    private static final int ENTRY = 5;
    private static final int SCORE = 6;
    private static final int OPENS = 7;
    private static final int CLOSES = 8;
    private static final int SETTING_COUNT = 9;
    private static final int FIRST_SHOWN_SETTING = 14;
    private static final int SETTINGS_MARK = 83;
    private static final int SETTINGS_LENGTH = 17;
    private static final int[] FIRST_SETTINGS = {15, 10, 20, 10, 200, 0, 12, 0, 999};
    private static final int[] LEAST_SETTINGS = {1, 1, 1, 1, 1, 0, 0, 0, 0};
    private static final int[] MOST_SETTINGS = {10000, 10000, 10000, 10000, 10000, 5, 16, 999, 999};
    private static final int[] SETTING_PLACES = {1, 3, 5, 7, 9, 11, 12, 13, 15};

    private static final int ARCHIVE_MARK = 82;
    private static final int ARCHIVE_MOST = 24;

    private final Bytes tape = new Bytes(TAPE_LIMIT);
    private final Bytes inserted = new Bytes(TAPE_LIMIT);
    private boolean hasDisk;
    private final Card[] cards = new Card[CARD_COUNT];
    private int outerCard = NONE;
    private int innerCard = NONE;
    private int fingerThere = NONE;
    private boolean doorOpen;
    private boolean doorSeenOpen;
    private int pressed;
    private int now;
    private int nextPass = 1;
    private final int[] settings = new int[SETTING_COUNT];
    private final Sealer sealer = new Sealer();
    private final Keys keys = new Keys();
    private final Journal journal = new Journal();
    private final Latch latch = new Latch();
    private final Outside outside = new Outside();
    private final Inside inside = new Inside();

    public StationHouse() {
        for (int i = 0; i < CARD_COUNT; i++) {
            cards[i] = new Card();
        }
        System.arraycopy(FIRST_SETTINGS, 0, settings, 0, SETTING_COUNT);
    }

    public int feed(int a, int b, int c, int d, int e) {
        if (!tape.hasRoom(20)) {
            return NONE;
        }
        tape.addFour(a);
        tape.addFour(b);
        tape.addFour(c);
        tape.addFour(d);
        tape.addFour(e);
        return tape.length;
    }

    public int cut(int n) {
        if (n < 0 || n > tape.length) {
            return NONE;
        }
        int went = tape.length - n;
        tape.length = n;
        return went;
    }

    public int seal(int a, int b, int c, int d) {
        if (!tape.hasRoom(SEAL_LENGTH)) {
            return NONE;
        }
        sealer.useKey(a, b, c, d);
        sealer.work(tape, tape.length);
        sealer.addSealTo(tape);
        return tape.length;
    }

    public boolean card(int c, int place) {
        boolean taken = isCard(c) && isPlace(place) && tape.length <= ROW_LIMIT;
        if (taken) {
            cards[c].replaceRow(place, tape);
        }
        tape.length = 0;
        return taken;
    }

    public boolean writable(int c, boolean may) {
        if (!isCard(c)) {
            return false;
        }
        cards[c].mayBeWritten = may;
        return true;
    }

    public boolean put(int reader, int c) {
        if (c != NONE && !isCard(c)) {
            return false;
        }
        if (reader == 0 && (c == NONE || c != innerCard)) {
            outerCard = c;
            return true;
        }
        if (reader == 1 && (c == NONE || c != outerCard)) {
            innerCard = c;
            return true;
        }
        return false;
    }

    public boolean finger(int f) {
        if (f < NONE || f > FINGER_LIMIT) {
            return false;
        }
        fingerThere = f;
        return true;
    }

    public void door(boolean open) {
        doorOpen = open;
    }

    public int disk() {
        inserted.copyFrom(tape);
        hasDisk = true;
        tape.length = 0;
        return inserted.length;
    }

    public boolean noDisk() {
        boolean was = hasDisk;
        hasDisk = false;
        inserted.length = 0;
        return was;
    }

    public boolean key(int k) {
        if (k < 0 || k > KEY_COUNT) {
            return false;
        }
        pressed = k;
        return true;
    }

    public boolean tick(int n) {
        if (n < 0 || n > TICK_LIMIT || n > TIME_LIMIT - now) {
            return false;
        }
        now += n;
        return true;
    }

    public boolean cutAt(int k) {
        if (k < 0 || k > CUT_LIMIT) {
            return false;
        }
        journal.cutBehind = k;
        return true;
    }

    public int poll() {
        journal.beginLook();
        if (inside.state != IN_SHUT) {
            readCards();
            seeDoor();
            watchLatch();
            if (outside.state == OUT_QUIET) {
                if (!actInside()) {
                    actOutside();
                }
            } else if (!actOutside()) {
                actInside();
            }
            watchLatch();
        }
        int written = journal.writtenInLook;
        if (!journal.endLook()) {
            return written;
        }
        restart();
        return CUT_OFF_ANSWER - written;
    }

    public int show(int what) {
        switch (what) {
            case 0: return latch.isOpen ? 1 : 0;
            case 1: return latch.alarm ? 1 : 0;
            case 2: return journal.alarm ? 1 : 0;
            case 3: return outside.sign;
            case 4: return inside.screen;
            case 5: return outside.state;
            case 6: return inside.state;
            case 7: return inside.role;
            case 8: return now;
            case 9: return journal.count;
            case 10: return journal.nextNumber;
            case 11: return nextPass;
            case 12: return keys.ownIssuer();
            case 13: return keys.count;
            default: return settingShown(what);
        }
    }

    public int record(int i, int k) {
        return journal.byteOf(i, k);
    }

    public int size(int c, int place) {
        return isCard(c) && isPlace(place) ? cards[c].rows[place].length : NONE;
    }

    public int at(int c, int place, int i) {
        return isCard(c) && isPlace(place) ? cards[c].rows[place].byteOf(i) : NONE;
    }

    public int diskAt(int i) {
        return hasDisk ? inserted.byteOf(i) : NONE;
    }

    private static boolean isCard(int c) {
        return c >= 0 && c < CARD_COUNT;
    }

    private static boolean isPlace(int place) {
        return place >= 0 && place < PLACE_COUNT;
    }

    private int settingShown(int what) {
        if (what < FIRST_SHOWN_SETTING || what >= FIRST_SHOWN_SETTING + SETTING_COUNT) {
            return NONE;
        }
        return settings[what - FIRST_SHOWN_SETTING];
    }

    // ---- a look (part 4)

    private boolean write(int what, int bad) {
        return journal.write(now, what, bad, NONE, 0);
    }

    private boolean writeOf(Sight sight, int what, int bad) {
        return journal.write(now, what, bad, sight.number, sight.serial);
    }

    private void readCards() {
        int outer = outside.state == OUT_QUIET ? outerCard : outside.card;
        outside.sight.read(outer, isCard(outer) ? cards[outer] : null, keys, sealer, now);
        boolean isNew = inside.state == IN_QUIET && inside.role == NONE;
        int inner = isNew ? innerCard : inside.card;
        inside.sight.read(inner, isCard(inner) ? cards[inner] : null, keys, sealer, now);
    }

    private void seeDoor() {
        if (doorOpen != doorSeenOpen) {
            write(doorOpen ? REC_DOOR_OPENED : REC_DOOR_CLOSED, FINE);
        }
        doorSeenOpen = doorOpen;
    }

    private void watchLatch() {
        if (latch.isOpen && now >= latch.locksAt && write(REC_LOCKED, FINE)) {
            latch.isOpen = false;
            if (outside.sign == SIGN_UNLOCKED) {
                outside.sign = SIGN_WELCOME;
            }
        }
        boolean due = doorOpen && !latch.isOpen && now >= latch.doorMayBeOpenTo;
        if (due && !latch.alarm && write(REC_ALARM_BEGINS, CRITICAL)) {
            latch.alarm = true;
        } else if (!due && latch.alarm && write(REC_ALARM_ENDS, FINE)) {
            latch.alarm = false;
        }
    }

    private void openLatch() {
        latch.isOpen = true;
        latch.locksAt = now + settings[UNLOCKED];
        latch.doorMayBeOpenTo = latch.locksAt + settings[SILENT];
        outside.sign = SIGN_UNLOCKED;
    }

    // ---- outside (part 5)

    /** False: there is nothing to do. An act that the power cut in two was begun, so it is true. */
    private boolean actOutside() {
        if (!journal.hasPower || !keys.isEnrolled()) {
            return false;
        }
        boolean cardStays = outerCard == outside.card;
        switch (outside.state) {
            case OUT_QUIET: return meetOuterCard();
            case OUT_GOT_CARD: return cardStays ? judgeOuterCard() : loseOuterCard();
            case OUT_WAITS_FOR_FINGER: return cardStays ? waitForFinger() : loseOuterCard();
            case OUT_GOT_FINGER: return cardStays ? judgeFinger() : loseOuterCard();
            case OUT_WRITES: return cardStays ? writePass() : loseOuterCard();
            case OUT_WAITS_FOR_ENTRY: return cardStays ? judgeEntry() : loseOuterCard();
            case OUT_REMOVE_WELL: return waitForRemoval();
            case OUT_REMOVE_ILL: return endIllVisit();
            default: return false;
        }
    }

    private boolean stepOutside(int what, int bad, int state, int sign) {
        Sight sight = outside.sight;
        if (!journal.write(now, what, bad, sight.number, sight.serial)) {
            return false;
        }
        outside.state = state;
        outside.sign = sign;
        return true;
    }

    private boolean loseOuterCard() {
        stepOutside(REC_CARD_GONE, WARNING, OUT_QUIET, SIGN_WELCOME);
        return true;
    }

    private boolean meetOuterCard() {
        if (outerCard == NONE) {
            return false;
        }
        if (stepOutside(REC_CARD_SEEN, FINE, OUT_GOT_CARD, SIGN_WAIT)) {
            outside.card = outerCard;
        }
        return true;
    }

    private boolean judgeOuterCard() {
        if (outside.sight.hasPass) {
            stepOutside(REC_HAS_PASS, FINE, OUT_WAITS_FOR_ENTRY, SIGN_WAIT);
        } else if (!outside.sight.isSound) {
            stepOutside(REC_BAD_CARD, WARNING, OUT_REMOVE_ILL, SIGN_REMOVE_CARD);
        } else if (stepOutside(REC_SOUND, FINE, OUT_WAITS_FOR_FINGER, SIGN_FINGER)) {
            outside.waitsTo = now + settings[WAIT];
        }
        return true;
    }

    private boolean waitForFinger() {
        if (fingerThere != NONE) {
            if (stepOutside(REC_FINGER_SEEN, FINE, OUT_GOT_FINGER, SIGN_WAIT)) {
                outside.finger = fingerThere;
            }
            return true;
        }
        if (now <= outside.waitsTo) {
            return false;
        }
        stepOutside(REC_NO_FINGER, WARNING, OUT_REMOVE_ILL, SIGN_REMOVE_CARD);
        return true;
    }

    private boolean judgeFinger() {
        Sight sight = outside.sight;
        if (sight.hasFinger && scoreOf(outside.finger, sight.template) >= settings[SCORE]) {
            stepOutside(REC_FINGER_RIGHT, FINE, OUT_WRITES, SIGN_WAIT);
        } else {
            stepOutside(REC_FINGER_WRONG, WARNING, OUT_REMOVE_ILL, SIGN_REMOVE_CARD);
        }
        return true;
    }

    private static int scoreOf(int finger, int template) {
        return 16 - Integer.bitCount((finger ^ template) & 65535);
    }

    private boolean writePass() {
        if (!outside.sight.isSound || !isCard(outside.card)) {
            stepOutside(REC_BAD_CARD, WARNING, OUT_REMOVE_ILL, SIGN_REMOVE_CARD);
        } else if (!cards[outside.card].mayBeWritten) {
            stepOutside(REC_PASS_NOT_WRITTEN, WARNING, OUT_WAITS_FOR_ENTRY, SIGN_PASS_NOT_WRITTEN);
        } else if (stepOutside(REC_PASS_WRITTEN, FINE, OUT_WAITS_FOR_ENTRY, SIGN_WAIT)) {
            makePassOn(cards[outside.card]);
        }
        return true;
    }

    private void makePassOn(Card owner) {
        Bytes who = owner.rows[WHO];
        Bytes right = owner.rows[RIGHT];
        Bytes pass = owner.emptyRow(PASS);
        pass.addByte(PASS + 1);
        pass.addTwo(keys.ownIssuer());
        pass.addFour(nextPass);
        pass.addTwo(who.twoAt(AT_ISSUER));
        pass.addFour(who.fourAt(AT_SERIAL));
        pass.addFour(now);
        pass.addFour(now + settings[HOLD]);
        pass.addByte(right.byteOf(AT_ROLE));
        pass.addByte(right.byteOf(AT_CLASS));
        keys.choose(0, sealer);
        sealer.work(pass, pass.length);
        sealer.addSealTo(pass);
        nextPass++;
    }

    private boolean judgeEntry() {
        if (outside.sight.classHeld() >= settings[ENTRY] && isOpeningTime()) {
            if (stepOutside(REC_MAY_ENTER, FINE, OUT_REMOVE_WELL, SIGN_OPEN_DOOR)) {
                outside.waitsTo = now + settings[REMOVE];
            }
        } else {
            stepOutside(REC_MAY_NOT_ENTER, WARNING, OUT_REMOVE_ILL, SIGN_REMOVE_CARD);
        }
        return true;
    }

    private boolean isOpeningTime() {
        int time = now % DAY;
        boolean begun = time >= settings[OPENS];
        boolean lasts = time <= settings[CLOSES];
        return settings[OPENS] <= settings[CLOSES] ? begun && lasts : begun || lasts;
    }

    private boolean waitForRemoval() {
        if (outerCard == NONE) {
            if (writeOf(outside.sight, REC_CARD_REMOVED, FINE)
                    && stepOutside(REC_UNLOCKED, FINE, OUT_QUIET, SIGN_UNLOCKED)) {
                openLatch();
            }
            return true;
        }
        if (now <= outside.waitsTo) {
            return false;
        }
        stepOutside(REC_CARD_LEFT, WARNING, OUT_REMOVE_ILL, SIGN_REMOVE_CARD);
        return true;
    }

    private boolean endIllVisit() {
        if (outerCard != NONE) {
            return false;
        }
        stepOutside(REC_ILL_CARD_REMOVED, FINE, OUT_QUIET, SIGN_WELCOME);
        return true;
    }

    // ---- inside (part 6)

    /** False: there is nothing to do. An act that the power cut in two was begun, so it is true. */
    private boolean actInside() {
        if (!journal.hasPower) {
            return false;
        }
        switch (inside.state) {
            case IN_NOT_ENROLLED: return hasDisk && enrol();
            case IN_BAD_ENROLMENT: return !hasDisk && awaitEnrolment();
            case IN_QUIET: return inside.role == NONE ? meetInnerCard() : roleEnds() || takeKey();
            case IN_GOT_CARD: return judgeInnerCard();
            case IN_REMOVE: return endInnerVisit();
            case IN_STARTS: return roleEnds() || startRequest();
            case IN_ENDS: return roleEnds() || endArchive();
            default: return false;
        }
    }

    private boolean enrol() {
        if (!Keys.areOn(inserted)) {
            if (write(REC_BAD_ENROLMENT, WARNING)) {
                inside.state = IN_BAD_ENROLMENT;
                inside.screen = SCREEN_BAD_ENROLMENT;
            }
        } else if (write(REC_ENROLLED, FINE)) {
            keys.takeFrom(inserted);
            inside.state = IN_QUIET;
            inside.screen = SCREEN_WELCOME;
            outside.sign = SIGN_WELCOME;
        }
        return true;
    }

    private boolean awaitEnrolment() {
        inside.state = IN_NOT_ENROLLED;
        inside.screen = SCREEN_ENROL;
        return true;
    }

    private boolean stepInside(int what, int bad, int state, int screen) {
        Sight sight = inside.sight;
        if (!journal.write(now, what, bad, sight.number, sight.serial)) {
            return false;
        }
        inside.state = state;
        inside.screen = screen;
        return true;
    }

    private boolean meetInnerCard() {
        if (innerCard == NONE) {
            return false;
        }
        if (stepInside(REC_IN_CARD_SEEN, FINE, IN_GOT_CARD, SCREEN_WAIT)) {
            inside.card = innerCard;
        }
        return true;
    }

    private boolean judgeInnerCard() {
        Sight sight = inside.sight;
        if (innerCard != inside.card) {
            stepInside(REC_IN_CARD_GONE, WARNING, IN_QUIET, SCREEN_WELCOME);
        } else if (!sight.hasPass || sight.passRole == GUEST) {
            stepInside(REC_NO_ROLE, WARNING, IN_REMOVE, SCREEN_REMOVE_CARD);
        } else if (stepInside(REC_ROLE_TAKEN, FINE, IN_QUIET, SCREEN_CHOOSE)) {
            inside.role = sight.passRole;
        }
        return true;
    }

    private boolean endInnerVisit() {
        if (innerCard != NONE) {
            return false;
        }
        stepInside(REC_IN_CARD_REMOVED, FINE, IN_QUIET, SCREEN_WELCOME);
        return true;
    }

    private boolean roleEnds() {
        Sight sight = inside.sight;
        if (innerCard != inside.card) {
            if (stepInside(REC_ROLE_LEFT, FINE, IN_QUIET, SCREEN_WELCOME)) {
                inside.role = NONE;
            }
            return true;
        }
        if (sight.hasPass && sight.passRole == inside.role) {
            return false;
        }
        if (stepInside(REC_ROLE_LOST, WARNING, IN_REMOVE, SCREEN_REMOVE_CARD)) {
            inside.role = NONE;
        }
        return true;
    }

    private boolean takeKey() {
        if (pressed == 0) {
            return false;
        }
        if (inside.role != roleFor(pressed)) {
            if (stepInside(REC_BAD_REQUEST, WARNING, IN_QUIET, SCREEN_BAD_REQUEST)) {
                pressed = 0;
            }
        } else if (stepInside(REC_REQUEST + pressed, FINE, IN_STARTS, SCREEN_BUSY)) {
            inside.request = pressed;
            pressed = 0;
        }
        return true;
    }

    private static int roleFor(int request) {
        switch (request) {
            case ARCHIVE: return KEEPER;
            case UNLOCK: return GUARD;
            default: return OFFICER;
        }
    }

    private boolean startRequest() {
        switch (inside.request) {
            case ARCHIVE: return hasDisk ? startArchive() : askForDisk();
            case CHANGE_SETTINGS: return hasDisk ? changeSettings() : askForDisk();
            case UNLOCK: return unlock();
            case SHUT_DOWN: return shutDown();
            default: return false;
        }
    }

    private boolean askForDisk() {
        boolean asks = inside.screen == SCREEN_INSERT_DISK;
        inside.screen = SCREEN_INSERT_DISK;
        return !asks;
    }

    private boolean startArchive() {
        if (stepInside(REC_ARCHIVE_WRITTEN, FINE, IN_ENDS, SCREEN_BUSY)) {
            inside.archivedFrom = journal.oldestNumber();
            inside.archivedCount = Math.min(journal.count, ARCHIVE_MOST);
            inserted.length = 0;
            inserted.addByte(ARCHIVE_MARK);
            journal.copyOldest(inside.archivedCount, inserted);
        }
        return true;
    }

    private boolean endArchive() {
        if (!isArchiveOnDisk()) {
            stepInside(REC_NOT_ARCHIVED, WARNING, IN_QUIET, SCREEN_BAD_DISK);
        } else if (stepInside(REC_ARCHIVED, FINE, IN_QUIET, SCREEN_CHOOSE)) {
            // Putting that record may have made the oldest block go: then fewer are left to clear.
            int gone = journal.oldestNumber() - inside.archivedFrom;
            journal.clearOldest(inside.archivedCount - gone);
        }
        return true;
    }

    /** While the oldest records are those that were written, they tell what the disk must have. */
    private boolean isArchiveOnDisk() {
        return hasDisk
                && journal.oldestNumber() == inside.archivedFrom
                && inserted.byteOf(0) == ARCHIVE_MARK
                && journal.areOldest(inside.archivedCount, inserted, 1);
    }

    private boolean changeSettings() {
        if (!areSettingsOnDisk()) {
            stepInside(REC_BAD_SETTINGS, WARNING, IN_QUIET, SCREEN_BAD_SETTINGS);
        } else if (stepInside(REC_SETTINGS, FINE, IN_QUIET, SCREEN_CHOOSE)) {
            for (int i = 0; i < SETTING_COUNT; i++) {
                settings[i] = settingOnDisk(i);
            }
        }
        return true;
    }

    private boolean areSettingsOnDisk() {
        if (inserted.length != SETTINGS_LENGTH || inserted.byteOf(0) != SETTINGS_MARK) {
            return false;
        }
        for (int i = 0; i < SETTING_COUNT; i++) {
            int value = settingOnDisk(i);
            if (value < LEAST_SETTINGS[i] || value > MOST_SETTINGS[i]) {
                return false;
            }
        }
        return true;
    }

    private int settingOnDisk(int i) {
        boolean isOneByte = i == ENTRY || i == SCORE;
        return isOneByte ? inserted.byteOf(SETTING_PLACES[i]) : inserted.twoAt(SETTING_PLACES[i]);
    }

    private boolean unlock() {
        if (writeOf(inside.sight, REC_GUARD_UNLOCKS, FINE)
                && stepInside(REC_UNLOCKED, FINE, IN_QUIET, SCREEN_CHOOSE)) {
            openLatch();
        }
        return true;
    }

    private boolean shutDown() {
        if (doorOpen) {
            stepInside(REC_NOT_SHUT, WARNING, IN_QUIET, SCREEN_CHOOSE);
            return true;
        }
        boolean locked = !latch.isOpen || write(REC_LOCKED, FINE);
        if (locked && stepInside(REC_SHUT, FINE, IN_SHUT, SCREEN_CLOSED)) {
            latch.isOpen = false;
            latch.alarm = false;
            outside.state = OUT_QUIET;
            outside.sign = SIGN_BLANK;
            inside.role = NONE;
        }
        return true;
    }

    // ---- crashes (part 7)

    private void restart() {
        boolean enrolled = keys.isEnrolled();
        latch.isOpen = false;
        latch.alarm = false;
        latch.doorMayBeOpenTo = now;
        doorSeenOpen = doorOpen;
        outside.state = OUT_QUIET;
        outside.sign = enrolled ? SIGN_WELCOME : SIGN_BLANK;
        inside.state = enrolled ? IN_QUIET : IN_NOT_ENROLLED;
        inside.screen = enrolled ? SCREEN_WELCOME : SCREEN_ENROL;
        inside.role = NONE;
        if (enrolled) {
            write(REC_START, WARNING);
        }
    }

    /** A row of bytes up to a limit. */
    private static final class Bytes {
        final byte[] kept;
        int length;

        Bytes(int limit) {
            kept = new byte[Math.max(limit, 0)];
        }

        boolean hasRoom(int more) {
            return more <= kept.length - length;
        }

        void addByte(int value) {
            if (length >= 0 && length < kept.length) {
                kept[length] = (byte) value;
                length++;
            }
        }

        void addTwo(int value) {
            addByte(value >>> 8);
            addByte(value);
        }

        void addFour(int value) {
            if (length >= 0 && length < kept.length - 3) {
                kept[length] = (byte) (value >>> 24);
                kept[length + 1] = (byte) (value >>> 16);
                kept[length + 2] = (byte) (value >>> 8);
                kept[length + 3] = (byte) value;
                length += 4;
            }
        }

        int byteOf(int i) {
            return i >= 0 && i < length && i < kept.length ? kept[i] & 255 : NONE;
        }

        int twoAt(int i) {
            return i >= 0 && i < length - 1 ? byteOf(i) << 8 | byteOf(i + 1) : NONE;
        }

        int fourAt(int i) {
            return i >= 0 && i < length - 3 ? twoAt(i) << 16 | twoAt(i + 2) : NONE;
        }

        void copyFrom(Bytes other) {
            length = Math.min(other.length, kept.length);
            System.arraycopy(other.kept, 0, kept, 0, length);
        }

        boolean isAlike(int i, Bytes other, int j, int count) {
            for (int k = 0; k < count; k++) {
                if (byteOf(i + k) != other.byteOf(j + k)) {
                    return false;
                }
            }
            return true;
        }
    }

    /** HMAC-SHA-256; one object is used again for every seal. */
    private static final class Sealer {
        private static final int BLOCK = 64;
        private static final int HASH_LENGTH = 32;
        private static final int INNER_PAD = 0x36;
        private static final int OUTER_PAD = 0x5c;
        private static final int[] START = {
            0x6a09e667, 0xbb67ae85, 0x3c6ef372, 0xa54ff53a, 0x510e527f, 0x9b05688c, 0x1f83d9ab, 0x5be0cd19
        };
        private static final int[] ROUNDS = {
            0x428a2f98, 0x71374491, 0xb5c0fbcf, 0xe9b5dba5, 0x3956c25b, 0x59f111f1, 0x923f82a4, 0xab1c5ed5,
            0xd807aa98, 0x12835b01, 0x243185be, 0x550c7dc3, 0x72be5d74, 0x80deb1fe, 0x9bdc06a7, 0xc19bf174,
            0xe49b69c1, 0xefbe4786, 0x0fc19dc6, 0x240ca1cc, 0x2de92c6f, 0x4a7484aa, 0x5cb0a9dc, 0x76f988da,
            0x983e5152, 0xa831c66d, 0xb00327c8, 0xbf597fc7, 0xc6e00bf3, 0xd5a79147, 0x06ca6351, 0x14292967,
            0x27b70a85, 0x2e1b2138, 0x4d2c6dfc, 0x53380d13, 0x650a7354, 0x766a0abb, 0x81c2c92e, 0x92722c85,
            0xa2bfe8a1, 0xa81a664b, 0xc24b8b70, 0xc76c51a3, 0xd192e819, 0xd6990624, 0xf40e3585, 0x106aa070,
            0x19a4c116, 0x1e376c08, 0x2748774c, 0x34b0bcb5, 0x391c0cb3, 0x4ed8aa4a, 0x5b9cca4f, 0x682e6ff3,
            0x748f82ee, 0x78a5636f, 0x84c87814, 0x8cc70208, 0x90befffa, 0xa4506ceb, 0xbef9a3f7, 0xc67178f2
        };

        private final int[] keyWords = new int[4];
        // The longest text is the key's block, a whole tape, and the end of a hash's text.
        private final byte[] text = new byte[512];
        private final int[] words = new int[64];
        private final int[] hash = new int[8];

        void useKey(int a, int b, int c, int d) {
            keyWords[0] = a;
            keyWords[1] = b;
            keyWords[2] = c;
            keyWords[3] = d;
        }

        /** The seal of a row's first bytes is told by sealByte until the next work. */
        void work(Bytes row, int length) {
            int count = Math.max(0, Math.min(length, Math.min(row.kept.length, TAPE_LIMIT)));
            beginWithKey(INNER_PAD);
            System.arraycopy(row.kept, 0, text, BLOCK, count);
            hashText(BLOCK + count);
            beginWithKey(OUTER_PAD);
            for (int i = 0; i < HASH_LENGTH; i++) {
                text[BLOCK + i] = (byte) byteOfWord(hash[i / 4], i % 4);
            }
            hashText(BLOCK + HASH_LENGTH);
        }

        int sealByte(int i) {
            return i >= 0 && i < SEAL_LENGTH ? byteOfWord(hash[i / 4], i % 4) : NONE;
        }

        void addSealTo(Bytes row) {
            for (int i = 0; i < SEAL_LENGTH; i++) {
                row.addByte(sealByte(i));
            }
        }

        private static int byteOfWord(int word, int i) {
            return word >>> (24 - 8 * i) & 255;
        }

        private void beginWithKey(int pad) {
            for (int i = 0; i < BLOCK; i++) {
                int keyByte = i < 16 ? byteOfWord(keyWords[i / 4], i % 4) : 0;
                text[i] = (byte) (keyByte ^ pad);
            }
        }

        private void hashText(int length) {
            int end = (length + 9 + BLOCK - 1) / BLOCK * BLOCK;
            if (length < 0 || end > text.length) {
                return;
            }
            text[length] = (byte) 128;
            for (int i = length + 1; i < end; i++) {
                text[i] = 0;
            }
            for (int i = 0; i < 4; i++) {
                text[end - 4 + i] = (byte) byteOfWord(length * 8, i);
            }
            System.arraycopy(START, 0, hash, 0, 8);
            for (int from = 0; from < end; from += BLOCK) {
                spreadWords(from);
                mixWords();
            }
        }

        private void spreadWords(int from) {
            for (int i = 0; i < 16; i++) {
                int at = from + 4 * i;
                words[i] = (text[at] & 255) << 24 | (text[at + 1] & 255) << 16
                        | (text[at + 2] & 255) << 8 | text[at + 3] & 255;
            }
            for (int i = 16; i < 64; i++) {
                int x = words[i - 15];
                int y = words[i - 2];
                int sx = (x >>> 7 | x << 25) ^ (x >>> 18 | x << 14) ^ x >>> 3;
                int sy = (y >>> 17 | y << 15) ^ (y >>> 19 | y << 13) ^ y >>> 10;
                words[i] = words[i - 16] + sx + words[i - 7] + sy;
            }
        }

        private void mixWords() {
            int a = hash[0];
            int b = hash[1];
            int c = hash[2];
            int d = hash[3];
            int e = hash[4];
            int f = hash[5];
            int g = hash[6];
            int h = hash[7];
            for (int i = 0; i < 64; i++) {
                int se = (e >>> 6 | e << 26) ^ (e >>> 11 | e << 21) ^ (e >>> 25 | e << 7);
                int first = h + se + (e & f ^ ~e & g) + ROUNDS[i] + words[i];
                int sa = (a >>> 2 | a << 30) ^ (a >>> 13 | a << 19) ^ (a >>> 22 | a << 10);
                int second = sa + (a & b ^ a & c ^ b & c);
                h = g;
                g = f;
                f = e;
                e = d + first;
                d = c;
                c = b;
                b = a;
                a = first + second;
            }
            hash[0] += a;
            hash[1] += b;
            hash[2] += c;
            hash[3] += d;
            hash[4] += e;
            hash[5] += f;
            hash[6] += g;
            hash[7] += h;
        }
    }

    /** A card's four rows; what is known of each row's seal is kept till the row changes. */
    private static final class Card {
        static final int SEAL_UNKNOWN = 0;
        static final int SEAL_RIGHT = 1;
        static final int SEAL_WRONG = 2;

        final Bytes[] rows = new Bytes[PLACE_COUNT];
        final int[] seals = new int[PLACE_COUNT];
        boolean mayBeWritten = true;

        Card() {
            for (int i = 0; i < PLACE_COUNT; i++) {
                rows[i] = new Bytes(ROW_LIMIT);
            }
        }

        void replaceRow(int place, Bytes from) {
            emptyRow(place).copyFrom(from);
        }

        Bytes emptyRow(int place) {
            int known = isPlace(place) ? place : 0;
            seals[known] = SEAL_UNKNOWN;
            rows[known].length = 0;
            return rows[known];
        }
    }

    /** The keys of the house and of the issuers that it trusts; the house's own is the first. */
    private static final class Keys {
        private static final int MARK = 69;
        private static final int MOST = 7;
        private static final int WORDS = 4;
        private static final int AT_COUNT = 19;
        private static final int HEAD_LENGTH = 20;
        private static final int ENTRY_LENGTH = 18;

        private final int[] issuers = new int[MOST];
        private final int[] words = new int[MOST * WORDS];
        int count;

        static boolean areOn(Bytes from) {
            int others = from.byteOf(AT_COUNT);
            if (from.byteOf(0) != MARK || others < 0 || others >= MOST) {
                return false;
            }
            return from.length == HEAD_LENGTH + others * ENTRY_LENGTH && areDifferent(from, others + 1);
        }

        private static boolean areDifferent(Bytes from, int issuerCount) {
            for (int i = 0; i < issuerCount; i++) {
                for (int j = 0; j < i; j++) {
                    if (from.twoAt(issuerPlace(i)) == from.twoAt(issuerPlace(j))) {
                        return false;
                    }
                }
            }
            return true;
        }

        private static int issuerPlace(int i) {
            return i == 0 ? 1 : HEAD_LENGTH + (i - 1) * ENTRY_LENGTH;
        }

        void takeFrom(Bytes from) {
            count = Math.max(0, Math.min(from.byteOf(AT_COUNT) + 1, MOST));
            for (int i = 0; i < count; i++) {
                int place = issuerPlace(i);
                issuers[i] = from.twoAt(place);
                for (int j = 0; j < WORDS; j++) {
                    words[i * WORDS + j] = from.fourAt(place + 2 + j * WORDS);
                }
            }
        }

        boolean isEnrolled() {
            return count > 0;
        }

        int ownIssuer() {
            return count > 0 ? issuers[0] : NONE;
        }

        int find(int issuer) {
            for (int i = 0; i < count && i < MOST; i++) {
                if (issuers[i] == issuer) {
                    return i;
                }
            }
            return NONE;
        }

        void choose(int i, Sealer sealer) {
            if (i >= 0 && i < MOST) {
                int from = i * WORDS;
                sealer.useKey(words[from], words[from + 1], words[from + 2], words[from + 3]);
            }
        }
    }

    /** What a card tells at one look. */
    private static final class Sight {
        int number = NONE;
        int serial;
        boolean isSound;
        boolean hasPass;
        boolean hasFinger;
        int template;
        int passRole;
        int passClass;
        int rightClass;

        void read(int cardNumber, Card card, Keys keys, Sealer sealer, int now) {
            number = cardNumber;
            serial = 0;
            isSound = false;
            hasPass = false;
            hasFinger = false;
            if (card == null) {
                return;
            }
            Bytes who = card.rows[WHO];
            Bytes right = card.rows[RIGHT];
            Bytes finger = card.rows[FINGER];
            Bytes pass = card.rows[PASS];
            boolean hasWho = isGood(card, WHO, keys, sealer, now);
            hasFinger = isGood(card, FINGER, keys, sealer, now);
            boolean hasRight = isGood(card, RIGHT, keys, sealer, now);
            serial = hasWho ? who.fourAt(AT_SERIAL) : 0;
            isSound = hasWho && hasRight && hasFinger && isHeldBy(right, who) && isHeldBy(finger, who);
            hasPass = hasWho && isGood(card, PASS, keys, sealer, now) && isHeldBy(pass, who)
                    && pass.twoAt(AT_ISSUER) == keys.ownIssuer();
            template = finger.twoAt(AT_BODY);
            passRole = pass.byteOf(AT_ROLE);
            passClass = pass.byteOf(AT_CLASS);
            rightClass = right.byteOf(AT_CLASS);
        }

        /** The class of the pass, else of the right; below every class if neither counts. */
        int classHeld() {
            if (hasPass) {
                return passClass;
            }
            return isSound ? rightClass : NONE;
        }

        private static boolean isHeldBy(Bytes row, Bytes who) {
            return row.isAlike(AT_HOLDER, who, AT_ISSUER, HOLDER_LENGTH);
        }

        private static boolean isGood(Card card, int place, Keys keys, Sealer sealer, int now) {
            Bytes row = isPlace(place) ? card.rows[place] : null;
            if (row == null || !isFormed(row, place) || !isInTime(row, now)) {
                return false;
            }
            int issuer = keys.find(row.twoAt(AT_ISSUER));
            if (issuer == NONE) {
                return false;
            }
            // A house is enrolled once: what was found of a seal holds as long as the row does.
            if (card.seals[place] == Card.SEAL_UNKNOWN) {
                keys.choose(issuer, sealer);
                card.seals[place] = isSealed(row, sealer) ? Card.SEAL_RIGHT : Card.SEAL_WRONG;
            }
            return card.seals[place] == Card.SEAL_RIGHT;
        }

        private static boolean isFormed(Bytes row, int place) {
            int bodyLength = place == WHO ? 4 : 2;
            if (row.length != AT_BODY + bodyLength + SEAL_LENGTH || row.byteOf(AT_KIND) != place + 1) {
                return false;
            }
            if (place == WHO) {
                return row.twoAt(AT_HOLDER) == 0 && row.fourAt(AT_HOLDER + 2) == 0;
            }
            return place == FINGER || row.byteOf(AT_ROLE) <= OFFICER && row.byteOf(AT_CLASS) <= HIGHEST_CLASS;
        }

        private static boolean isInTime(Bytes row, int now) {
            return now >= withoutSign(row.fourAt(AT_FROM)) && now <= withoutSign(row.fourAt(AT_TO));
        }

        private static long withoutSign(int value) {
            return value & 0xffffffffL;
        }

        private static boolean isSealed(Bytes row, Sealer sealer) {
            int textLength = row.length - SEAL_LENGTH;
            sealer.work(row, textLength);
            for (int i = 0; i < SEAL_LENGTH; i++) {
                if (row.byteOf(textLength + i) != sealer.sealByte(i)) {
                    return false;
                }
            }
            return true;
        }
    }

    /** The records, and the power that may go while a look puts them. */
    private static final class Journal {
        private static final int RECORD_LENGTH = 16;
        private static final int BLOCK_RECORDS = 8;
        private static final int MOST_RECORDS = 96;
        private static final int CALM_BELOW = 64;

        private final Bytes kept = new Bytes(MOST_RECORDS * RECORD_LENGTH);
        int count;
        int nextNumber = 1;
        boolean alarm;
        int cutBehind = NONE;
        int writtenInLook;
        boolean hasPower = true;

        void beginLook() {
            writtenInLook = 0;
            hasPower = cutBehind != 0;
        }

        /** Whether the look was cut off; the power is there again. */
        boolean endLook() {
            boolean wasCut = cutBehind != NONE;
            cutBehind = NONE;
            hasPower = true;
            return wasCut;
        }

        /** False: the power went before the record was there. */
        boolean write(int now, int what, int bad, int card, int serial) {
            if (hasPower && count >= MOST_RECORDS) {
                dropOldest(BLOCK_RECORDS);
                alarm = true;
                append(now, REC_BLOCK_LOST, CRITICAL, NONE, 0);
            }
            if (!hasPower) {
                return false;
            }
            append(now, what, bad, card, serial);
            return true;
        }

        private void append(int now, int what, int bad, int card, int serial) {
            kept.addFour(nextNumber);
            kept.addFour(now);
            kept.addByte(what);
            kept.addByte(bad);
            kept.addByte(card);
            kept.addByte(0);
            kept.addFour(serial);
            nextNumber++;
            count++;
            writtenInLook++;
            hasPower = writtenInLook != cutBehind;
        }

        private void dropOldest(int gone) {
            int dropped = Math.max(0, Math.min(gone, count));
            int from = dropped * RECORD_LENGTH;
            System.arraycopy(kept.kept, from, kept.kept, 0, kept.length - from);
            kept.length -= from;
            count -= dropped;
        }

        void clearOldest(int gone) {
            dropOldest(gone);
            if (count < CALM_BELOW) {
                alarm = false;
            }
        }

        /** Numbers have no gaps, as only the oldest records go. */
        int oldestNumber() {
            return nextNumber - count;
        }

        void copyOldest(int records, Bytes to) {
            for (int i = 0; i < records * RECORD_LENGTH; i++) {
                to.addByte(kept.byteOf(i));
            }
        }

        boolean areOldest(int records, Bytes row, int from) {
            int length = records * RECORD_LENGTH;
            return row.length == from + length && row.isAlike(from, kept, 0, length);
        }

        int byteOf(int i, int k) {
            if (i < 0 || i >= count || k < 0 || k >= RECORD_LENGTH) {
                return NONE;
            }
            return kept.byteOf(i * RECORD_LENGTH + k);
        }
    }

    private static final class Latch {
        boolean isOpen;
        int locksAt;
        int doorMayBeOpenTo;
        boolean alarm;
    }

    private static final class Outside {
        final Sight sight = new Sight();
        int state = OUT_QUIET;
        int sign = SIGN_BLANK;
        int card = NONE;
        int finger = NONE;
        int waitsTo;
    }

    private static final class Inside {
        final Sight sight = new Sight();
        int state = IN_NOT_ENROLLED;
        int screen = SCREEN_ENROL;
        int card = NONE;
        int role = NONE;
        int request;
        int archivedFrom;
        int archivedCount;
    }
}
