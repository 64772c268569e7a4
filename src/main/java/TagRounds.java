import java.util.ArrayList;
import java.util.Arrays;
import java.util.NoSuchElementException;

/** Readers that command, tags that answer without collision; see ../shared/DOC.md for the promises. */
public final class TagRounds {
    public static final int NONE = -1;

    private static final int READERS = 4;
    private static final int ALL_READERS = 15;
    private static final int MOST_TAGS = 16;
    private static final int LAST_TICK = 99999;
    private static final int MOST_SLOTS = 400;
    private static final int HIGHEST_Q = 15;
    private static final int HIGHEST_AIM = 1500;
    private static final int HIGHEST_PUSH = 100;
    private static final int HIGHEST_WORD = 65535;

    private static final int READY = 0;
    private static final int WAITS = 1;
    private static final int REPLIES = 2;
    private static final int KNOWN = 3;
    private static final int OPEN = 4;
    private static final int SECURED = 5;
    private static final int KILLED = 6;

    private static final int PICKED = 4;

    private static final int SELECT = 0;
    private static final int QUERY = 1;
    private static final int ADJUST = 2;
    private static final int NEXT = 3;
    private static final int ACK = 4;
    private static final int NAK = 5;
    private static final int RENEW = 6;
    private static final int READ = 7;
    private static final int WRITE = 8;
    private static final int LOCK = 9;
    private static final int PASS = 10;

    private static final int BANK_CODES = 0;
    private static final int BANK_EPC = 1;
    private static final int BANK_MAKER = 2;
    private static final int BANK_USER = 3;
    private static final int EPC_AT = 2;

    private static final int AREA_KILL = 0;
    private static final int AREA_ACCESS = 1;
    private static final int AREA_EPC = 2;
    private static final int AREA_USER = 3;

    private static final int MODE_SECURED = 1;
    private static final int MODE_FOR_GOOD = 2;
    private static final int MODE_NEVER = 3;

    private static final int REFUSED = 65536;
    private static final int NO_WORDS = 3;
    private static final int MAY_NOT = 4;
    private static final int NO_COVER = 15;

    private final Clock clock = new Clock();
    private final Reader[] readers = new Reader[READERS];
    private final ArrayList<Tag> tags = new ArrayList<Tag>();
    private final Mask pattern = new Mask();
    private final Command command = new Command();
    private final Signal signal = new Signal();
    private final Answer answer = new Answer();
    private final Course course = new Course();
    private final Journal journal = new Journal();
    private final int[] slots = new int[MOST_TAGS];
    private final int[] ticksByBusy = new int[ALL_READERS + 1];
    private final int[] rivals = new int[READERS];
    private final int[] colours = new int[READERS];

    public TagRounds() {
        for (int i = 0; i < readers.length; i++) {
            readers[i] = new Reader();
        }
    }

    // ---- the air ----

    public int add(int reach, int words, int high, int low) throws IllegalArgumentException, IllegalStateException {
        needRange(reach, 0, ALL_READERS);
        needRange(words, 1, Memory.MOST_EPC);
        if (tags.size() >= MOST_TAGS) {
            throw new IllegalStateException();
        }
        int number = tags.size();
        Tag t = new Tag(number, clock, new Memory(number, words, high, low));
        tags.add(t);
        t.reach = reach;
        t.setPower((reach & onBits()) != 0);
        return number;
    }

    public int move(int tag, int reach) throws IndexOutOfBoundsException, IllegalArgumentException {
        Tag t = needTag(tag);
        needRange(reach, 0, ALL_READERS);
        int before = t.reach;
        t.reach = reach;
        t.setPower((reach & onBits()) != 0);
        return before;
    }

    public boolean power(int reader, boolean on) throws IndexOutOfBoundsException {
        Reader r = needReader(reader);
        boolean before = r.on;
        r.on = on;
        int ons = onBits();
        for (int i = 0; i < tags.size(); i++) {
            Tag t = tags.get(i);
            t.setPower((t.reach & ons) != 0);
        }
        return before != on;
    }

    public int time(int what, int n) throws NoSuchElementException, IllegalArgumentException {
        needKind(what, 2);
        needRange(n, what == 0 ? 0 : 1, what == 0 ? 999 : 9999);
        int before = clock.told(what);
        clock.tell(what, n);
        fadeFlags();
        return before;
    }

    public void slice(int reader, int from, int ticks) throws IndexOutOfBoundsException, IllegalArgumentException {
        Reader r = needReader(reader);
        needRange(from, 0, 999);
        needRange(ticks, 0, 999);
        r.from = from;
        r.ticks = ticks;
    }

    public int rest(int ticks) throws IllegalArgumentException {
        needRange(ticks, 1, 9999);
        clock.elapse(ticks);
        fadeFlags();
        return clock.now;
    }

    public int seed(int tag, int n) throws IndexOutOfBoundsException {
        Tag t = needTag(tag);
        int before = t.seed;
        t.seed = n;
        return before;
    }

    public int store(int tag, int bank, int word, int value) throws IndexOutOfBoundsException, IllegalArgumentException {
        Tag t = needTag(tag);
        if (!t.memory.has(bank, word, 1) || !Memory.mayChange(bank, word)) {
            throw new IndexOutOfBoundsException();
        }
        needRange(value, 0, HIGHEST_WORD);
        int before = t.memory.get(bank, word);
        t.memory.set(bank, word, value);
        return before;
    }

    // ---- commands ----

    public void mask(int bank, int bit, int length, int bits) throws IllegalArgumentException {
        needRange(bank, BANK_EPC, BANK_USER);
        needRange(bit, 0, 255);
        needRange(length, 0, 31);
        pattern.tell(bank, bit, length, bits);
    }

    public int select(int reader, int flag, int action) throws IndexOutOfBoundsException, IllegalArgumentException, IllegalStateException {
        Reader r = needReader(reader);
        needRange(flag, 0, PICKED);
        needRange(action, 0, 7);
        needCommand(r);
        int matched = Integer.bitCount(matchingBits() & hearingBits(reader) & ~killedBits());
        command.setSelect(flag, action);
        transmit(reader);
        return matched;
    }

    public int query(int reader, int which, int session, int target, int q) throws IndexOutOfBoundsException, IllegalArgumentException, IllegalStateException {
        Reader r = needReader(reader);
        needRange(which, 0, 2);
        needRange(session, 0, 3);
        needRange(target, 0, 1);
        needRange(q, 0, HIGHEST_Q);
        needCommand(r);
        command.setQuery(which, session, target, q);
        return transmit(reader);
    }

    public int adjust(int reader, int session, int up) throws IndexOutOfBoundsException, IllegalArgumentException, IllegalStateException {
        Reader r = needReader(reader);
        needRange(session, 0, 3);
        needRange(up, -1, 1);
        needCommand(r);
        command.setAdjust(session, up);
        return transmit(reader);
    }

    public int next(int reader, int session) throws IndexOutOfBoundsException, IllegalArgumentException, IllegalStateException {
        Reader r = needReader(reader);
        needRange(session, 0, 3);
        needCommand(r);
        command.setNext(session);
        return transmit(reader);
    }

    public int ack(int reader, int number) throws IndexOutOfBoundsException, IllegalStateException {
        needCommand(needReader(reader));
        command.setNumber(ACK, 2, number);
        return transmit(reader);
    }

    public int nak(int reader) throws IndexOutOfBoundsException, IllegalStateException {
        needCommand(needReader(reader));
        command.setNumber(NAK, 1, NONE);
        return transmit(reader);
    }

    public int renew(int reader, int number) throws IndexOutOfBoundsException, IllegalStateException {
        needCommand(needReader(reader));
        command.setNumber(RENEW, 4, number);
        return transmit(reader);
    }

    public int read(int reader, int handle, int bank, int word, int many) throws IndexOutOfBoundsException, IllegalArgumentException, IllegalStateException {
        Reader r = needReader(reader);
        needRange(bank, 0, BANK_USER);
        needRange(many, 1, 4);
        needCommand(r);
        command.setNumber(READ, 4, handle);
        command.setWords(bank, word, many);
        return transmit(reader);
    }

    public int write(int reader, int handle, int bank, int word, int value) throws IndexOutOfBoundsException, IllegalArgumentException, IllegalStateException {
        Reader r = needReader(reader);
        needRange(bank, 0, BANK_USER);
        needRange(value, 0, HIGHEST_WORD);
        needCommand(r);
        command.setNumber(WRITE, 4, handle);
        command.setWords(bank, word, 1);
        command.value = value;
        return transmit(reader);
    }

    public int lock(int reader, int handle, int area, int mode) throws IndexOutOfBoundsException, IllegalArgumentException, IllegalStateException {
        Reader r = needReader(reader);
        needRange(area, 0, AREA_USER);
        needRange(mode, 0, MODE_NEVER);
        needCommand(r);
        command.setNumber(LOCK, 4, handle);
        command.area = area;
        command.mode = mode;
        return transmit(reader);
    }

    public int pass(int reader, int handle, int half, boolean kill) throws IndexOutOfBoundsException, IllegalArgumentException, IllegalStateException {
        Reader r = needReader(reader);
        needRange(half, 0, HIGHEST_WORD);
        needCommand(r);
        command.setNumber(PASS, 4, handle);
        command.value = half;
        command.kill = kill;
        return transmit(reader);
    }

    public int heard(int k) {
        return k == NONE ? answer.size() : answer.wordAt(k);
    }

    // ---- steering ----

    public int steer(int reader, int what, int n) throws IndexOutOfBoundsException, NoSuchElementException, IllegalArgumentException {
        Reader r = needReader(reader);
        needKind(what, 1);
        int before;
        if (what == 0) {
            needRange(n, 0, HIGHEST_AIM);
            before = r.aim;
            r.aim = n;
        } else {
            needRange(n, 1, HIGHEST_PUSH);
            before = r.push;
            r.push = n;
        }
        return before;
    }

    public int round(int reader, int which, int session, int target, int most) throws IndexOutOfBoundsException, IllegalArgumentException, IllegalStateException {
        Reader r = needReader(reader);
        needRange(which, 0, 2);
        needRange(session, 0, 3);
        needRange(target, 0, 1);
        needRange(most, 1, MOST_SLOTS);
        needCommand(r);
        r.beginRound();
        course.begin(which, session, target, r.aimedQ());
        command.setQuery(which, session, target, r.aimedQ());
        for (int slot = 1; slot <= most; slot++) {
            int answers = transmit(reader);
            r.tally(answers);
            course.note(answers);
            if (answers == 1 && !clock.isOver()) {
                acknowledge(reader, r, session);
            }
            if (clock.isOver()) {
                break;
            }
            if (slot == most || !course.prepare(command, r.aimedQ())) {
                command.setNext(session);
                transmit(reader);
                break;
            }
        }
        return r.readLately;
    }

    public int sent(int k) {
        return k == NONE ? signal.length : signal.bitAt(k);
    }

    public int foresee(int reader, int session, int target, int q, int what) throws IndexOutOfBoundsException, NoSuchElementException, IllegalArgumentException {
        needReader(reader);
        needKind(what, 3);
        needRange(session, 0, 3);
        needRange(target, 0, 1);
        needRange(q, 0, HIGHEST_Q);
        foreseeSlots(reader, session, target, q);
        if (what == 3) {
            return firstSingle();
        }
        int single = countSlots(false);
        int clashes = countSlots(true);
        if (what == 0) {
            return (1 << q) - single - clashes;
        }
        return what == 1 ? single : clashes;
    }

    public int wise(int reader, int session, int target) throws IndexOutOfBoundsException, IllegalArgumentException {
        needReader(reader);
        needRange(session, 0, 3);
        needRange(target, 0, 1);
        for (int q = 0; q <= HIGHEST_Q; q++) {
            foreseeSlots(reader, session, target, q);
            if (countSlots(true) == 0) {
                return q;
            }
        }
        return NONE;
    }

    public int chances(int reader, int tag) throws IndexOutOfBoundsException {
        needReader(reader);
        Tag t = needTag(tag);
        countTicksByBusy();
        return chancesOf(reader, t);
    }

    // ---- what can be asked ----

    public int reader(int reader, int what) throws IndexOutOfBoundsException, NoSuchElementException {
        Reader r = needReader(reader);
        needKind(what, 15);
        switch (what) {
            case 1:
                return busyAt(clock.now) >>> reader & 1;
            case 12:
                return clearTick(reader);
            case 13:
                plan();
                return colourOf(reader);
            case 14:
                return reachedBits(reader);
            case 15:
                return hearingBits(reader);
            default:
                return r.told(what);
        }
    }

    public int tag(int tag, int what) throws IndexOutOfBoundsException, NoSuchElementException {
        Tag t = needTag(tag);
        needKind(what, 14);
        if (what == 10) {
            return pattern.matches(t.memory) ? 1 : 0;
        }
        if (what == 13) {
            countTicksByBusy();
            return likeliestReader(t);
        }
        return t.told(what);
    }

    public int flag(int tag, int flag) throws IndexOutOfBoundsException, IllegalArgumentException {
        Tag t = needTag(tag);
        needRange(flag, 0, PICKED);
        return t.flags.get(flag);
    }

    public int fades(int tag, int flag) throws IndexOutOfBoundsException, IllegalArgumentException {
        Tag t = needTag(tag);
        needRange(flag, 0, PICKED);
        return t.ticksLeftOf(flag);
    }

    public int word(int tag, int bank, int word) throws IndexOutOfBoundsException {
        Tag t = needTag(tag);
        if (!t.memory.has(bank, word, 1)) {
            throw new IndexOutOfBoundsException();
        }
        return t.memory.get(bank, word);
    }

    public int mode(int tag, int area) throws IndexOutOfBoundsException, IllegalArgumentException {
        Tag t = needTag(tag);
        needRange(area, 0, AREA_USER);
        return t.memory.modeOf(area);
    }

    public int log(int k, int what) throws NoSuchElementException {
        needKind(what, 3);
        return journal.get(k, what);
    }

    public int left(int flag, int value) throws IllegalArgumentException {
        needRange(flag, 0, PICKED);
        needRange(value, 0, 1);
        int bits = 0;
        for (int i = 0; i < tags.size(); i++) {
            Tag t = tags.get(i);
            if (t.powered && t.state != KILLED && t.flags.get(flag) == value) {
                bits |= 1 << i;
            }
        }
        return bits;
    }

    public int rate(int n, int q) throws IllegalArgumentException {
        needRange(n, 1, 99);
        needRange(q, NONE, HIGHEST_Q);
        return q == NONE ? bestQ(n) : rateOf(n, q);
    }

    public int count(int what) {
        switch (what) {
            case 0:
                return tags.size();
            case 1:
                return clock.now;
            case 2:
            case 3:
            case 4:
                return clock.told(what - 2);
            case 5:
                return onBits();
            case 6:
                return poweredBits();
            case 7:
                return killedBits();
            case 8:
                return journal.total;
            case 9:
                return plan();
            case 10:
                return matchingBits();
            case 11:
                return darkBits();
            default:
                return NONE;
        }
    }

    // ---- refusals ----

    private Reader needReader(int reader) {
        if (reader < 0 || reader >= readers.length) {
            throw new IndexOutOfBoundsException();
        }
        return readers[reader];
    }

    private Tag needTag(int tag) {
        if (tag < 0 || tag >= tags.size()) {
            throw new IndexOutOfBoundsException();
        }
        return tags.get(tag);
    }

    private void needKind(int what, int highest) {
        if (what < 0 || what > highest) {
            throw new NoSuchElementException();
        }
    }

    private void needRange(int n, int lowest, int highest) {
        if (n < lowest || n > highest) {
            throw new IllegalArgumentException();
        }
    }

    private void needCommand(Reader r) {
        if (!r.on || clock.isOver()) {
            throw new IllegalStateException();
        }
    }

    // ---- how a command goes ----

    private int transmit(int reader) {
        signal.encode(command, pattern);
        if (command.isAnswered()) {
            answer.clear();
        }
        int busy = busyAt(clock.now);
        for (int i = 0; i < tags.size(); i++) {
            Tag t = tags.get(i);
            if (t.state != KILLED && hears(t, reader, busy)) {
                t.obey(command, pattern, answer);
            }
        }
        clock.elapse(command.ticks + (command.isAnswered() ? answer.ticks() : 0));
        fadeFlags();
        return command.isAnswered() ? answer.outcome() : 0;
    }

    private void acknowledge(int reader, Reader r, int session) {
        int ahead = clock.now;
        command.setNumber(ACK, 2, answer.wordAt(0));
        if (transmit(reader) != 1) {
            return;
        }
        int number = answer.from;
        if (number < 0 || number >= tags.size()) {
            return;
        }
        tags.get(number).timesRead++;
        r.readLately++;
        r.readEver++;
        journal.note(reader, number, session, ahead);
    }

    // FLAGS are let go as soon as their time is up, since a HOLD or KEEP told later must not bring them back.
    private void fadeFlags() {
        for (int i = 0; i < tags.size(); i++) {
            tags.get(i).fade();
        }
    }

    // ---- who hears whom ----

    private int onBits() {
        int bits = 0;
        for (int i = 0; i < readers.length; i++) {
            if (readers[i].on) {
                bits |= 1 << i;
            }
        }
        return bits;
    }

    private int busyAt(int tick) {
        int frame = clock.frame;
        if (frame <= 0) {
            return 0;
        }
        int place = tick % frame;
        int bits = 0;
        for (int i = 0; i < readers.length; i++) {
            if (readers[i].isBusyAt(place)) {
                bits |= 1 << i;
            }
        }
        return bits;
    }

    private boolean hears(Tag t, int reader, int busy) {
        if (reader < 0 || reader >= readers.length || !readers[reader].on) {
            return false;
        }
        int own = 1 << reader;
        return (t.reach & own) != 0 && (t.reach & busy & ~own) == 0;
    }

    private int hearingBits(int reader) {
        int busy = busyAt(clock.now);
        int bits = 0;
        for (int i = 0; i < tags.size(); i++) {
            if (hears(tags.get(i), reader, busy)) {
                bits |= 1 << i;
            }
        }
        return bits;
    }

    private int reachedBits(int reader) {
        int bits = 0;
        for (int i = 0; i < tags.size(); i++) {
            if ((tags.get(i).reach >>> reader & 1) != 0) {
                bits |= 1 << i;
            }
        }
        return bits;
    }

    private int poweredBits() {
        int bits = 0;
        for (int i = 0; i < tags.size(); i++) {
            if (tags.get(i).powered) {
                bits |= 1 << i;
            }
        }
        return bits;
    }

    private int killedBits() {
        int bits = 0;
        for (int i = 0; i < tags.size(); i++) {
            if (tags.get(i).state == KILLED) {
                bits |= 1 << i;
            }
        }
        return bits;
    }

    private int matchingBits() {
        int bits = 0;
        for (int i = 0; i < tags.size(); i++) {
            if (pattern.matches(tags.get(i).memory)) {
                bits |= 1 << i;
            }
        }
        return bits;
    }

    // ---- what would be ----

    // Which READERS are BUSY decides alone who hears: so ticks of the FRAME are counted by that, not looked at one by one for each TAG.
    private void countTicksByBusy() {
        Arrays.fill(ticksByBusy, 0);
        int ticks = Math.max(1, clock.frame);
        for (int tick = 0; tick < ticks; tick++) {
            int busy = busyAt(tick);
            if (busy >= 0 && busy < ticksByBusy.length) {
                ticksByBusy[busy]++;
            }
        }
    }

    private int chancesOf(int reader, Tag t) {
        int ticks = 0;
        for (int busy = 0; busy < ticksByBusy.length; busy++) {
            if (hears(t, reader, busy)) {
                ticks += ticksByBusy[busy];
            }
        }
        return ticks;
    }

    private int likeliestReader(Tag t) {
        int best = NONE;
        int most = 0;
        for (int i = 0; i < READERS; i++) {
            int ticks = chancesOf(i, t);
            if (ticks > most) {
                most = ticks;
                best = i;
            }
        }
        return best;
    }

    private int darkBits() {
        countTicksByBusy();
        int bits = 0;
        for (int i = 0; i < tags.size(); i++) {
            Tag t = tags.get(i);
            if (t.powered && likeliestReader(t) == NONE) {
                bits |= 1 << i;
            }
        }
        return bits;
    }

    private void foreseeSlots(int reader, int session, int target, int q) {
        Arrays.fill(slots, NONE);
        int busy = busyAt(clock.now);
        for (int i = 0; i < slots.length && i < tags.size(); i++) {
            Tag t = tags.get(i);
            if (t.state != KILLED && hears(t, reader, busy) && t.wouldDraw(session, target)) {
                slots[i] = t.foreseenSlot(q);
            }
        }
    }

    private int tagsIn(int slot) {
        int tagsThere = 0;
        for (int i = 0; i < slots.length; i++) {
            if (slots[i] == slot) {
                tagsThere++;
            }
        }
        return tagsThere;
    }

    // A clash is counted once, for the first of the tags in it.
    private int countSlots(boolean clashes) {
        int counted = 0;
        for (int i = 0; i < slots.length; i++) {
            if (slots[i] == NONE || wasAhead(i)) {
                continue;
            }
            if (tagsIn(slots[i]) > 1 == clashes) {
                counted++;
            }
        }
        return counted;
    }

    private boolean wasAhead(int place) {
        for (int i = 0; i < place && i < slots.length && place < slots.length; i++) {
            if (slots[i] == slots[place]) {
                return true;
            }
        }
        return false;
    }

    private int firstSingle() {
        int first = NONE;
        for (int i = 0; i < slots.length; i++) {
            int slot = slots[i];
            if (slot != NONE && tagsIn(slot) == 1 && (first == NONE || slot < first)) {
                first = slot;
            }
        }
        return first;
    }

    private static int rateOf(int n, int q) {
        long ways = 1L << q;
        if (ways <= 0) {
            return 0;
        }
        long chance = 1000000L * n / ways;
        for (int i = 1; i < n; i++) {
            chance = chance * (ways - 1) / ways;
        }
        return (int) chance;
    }

    private static int bestQ(int n) {
        int best = 0;
        for (int q = 1; q <= HIGHEST_Q; q++) {
            if (rateOf(n, q) > rateOf(n, best)) {
                best = q;
            }
        }
        return best;
    }

    // ---- sharing the air ----

    private int rivalsOf(int reader) {
        int bits = 0;
        for (int i = 0; i < tags.size(); i++) {
            int reach = tags.get(i).reach;
            if ((reach >>> reader & 1) != 0) {
                bits |= reach;
            }
        }
        return bits & ~(1 << reader);
    }

    private int clearTick(int reader) {
        int others = rivalsOf(reader);
        int ticks = Math.max(1, clock.frame);
        for (int i = 0; i < ticks; i++) {
            if ((busyAt(clock.now + i) & others) == 0) {
                return clock.now + i;
            }
        }
        return NONE;
    }

    // How many colours the PLAN has; the colours stand in the row then.
    private int plan() {
        for (int i = 0; i < rivals.length; i++) {
            rivals[i] = rivalsOf(i);
        }
        for (int many = 1; many < READERS; many++) {
            if (colourWith(many)) {
                return many;
            }
        }
        colourWith(READERS);
        return READERS;
    }

    private boolean colourWith(int many) {
        int ways = many * many * many * many;
        for (int way = 0; way < ways; way++) {
            colourBy(way, many);
            if (isProper()) {
                return true;
            }
        }
        return false;
    }

    // The last READER takes the lowest digit, so that the ways come in the order READER by READER.
    private void colourBy(int way, int many) {
        int digits = way;
        for (int i = colours.length - 1; i >= 0 && many > 0; i--) {
            colours[i] = digits % many;
            digits /= many;
        }
    }

    private boolean isProper() {
        for (int i = 0; i < colours.length && i < rivals.length; i++) {
            for (int j = 0; j < i; j++) {
                if (colours[i] == colours[j] && (rivals[i] >>> j & 1) != 0) {
                    return false;
                }
            }
        }
        return true;
    }

    private int colourOf(int reader) {
        return reader >= 0 && reader < colours.length ? colours[reader] : NONE;
    }

    // ---- the parts ----

    private static final class Clock {
        int now;
        int frame;
        int hold = 500;
        int keep = 1000;

        void elapse(int ticks) {
            now = Math.min(LAST_TICK, now + ticks);
        }

        boolean isOver() {
            return now >= LAST_TICK;
        }

        int told(int what) {
            if (what == 0) {
                return frame;
            }
            return what == 1 ? hold : keep;
        }

        void tell(int what, int n) {
            if (what == 0) {
                frame = n;
            } else if (what == 1) {
                hold = n;
            } else {
                keep = n;
            }
        }
    }

    private static final class Reader {
        boolean on;
        int from;
        int ticks;
        int aim = 400;
        int push = 25;
        int slots;
        int empty;
        int single;
        int clashes;
        int readLately;
        int readEver;

        boolean isBusyAt(int place) {
            return on && place >= from && place < from + ticks;
        }

        int aimedQ() {
            return (aim + 50) / 100;
        }

        void beginRound() {
            slots = 0;
            empty = 0;
            single = 0;
            clashes = 0;
            readLately = 0;
        }

        void tally(int answers) {
            slots++;
            if (answers == 0) {
                empty++;
                aim = Math.max(0, aim - push);
            } else if (answers == 1) {
                single++;
            } else {
                clashes++;
                aim = Math.min(HIGHEST_AIM, aim + push);
            }
        }

        int told(int what) {
            switch (what) {
                case 0:
                    return on ? 1 : 0;
                case 2:
                    return aim;
                case 3:
                    return push;
                case 4:
                    return slots;
                case 5:
                    return empty;
                case 6:
                    return single;
                case 7:
                    return clashes;
                case 8:
                    return readLately;
                case 9:
                    return (239 * clashes + 100 * single) / 100;
                case 10:
                    return slots <= 0 ? 0 : 100 * single / slots;
                default:
                    return readEver;
            }
        }
    }

    /** The numbers of a ROUND that is under way. */
    private static final class Course {
        int which;
        int session;
        int target;
        int q;
        int left;
        boolean clashed;

        void begin(int whichTags, int ofSession, int ofTarget, int firstQ) {
            which = whichTags;
            session = ofSession;
            target = ofTarget;
            setQ(firstQ);
        }

        void setQ(int n) {
            q = n;
            left = 1 << n;
            clashed = false;
        }

        void note(int answers) {
            left--;
            if (answers > 1) {
                clashed = true;
            }
        }

        // Whether one more SLOT is due; the command that begins it is told then.
        boolean prepare(Command c, int aimedQ) {
            if (aimedQ != q) {
                int up = aimedQ > q ? 1 : -1;
                setQ(q + up);
                c.setAdjust(session, up);
                return true;
            }
            if (left > 0) {
                c.setNext(session);
                return true;
            }
            if (clashed) {
                setQ(q);
                c.setQuery(which, session, target, q);
                return true;
            }
            return false;
        }
    }

    /** The command that goes on the air: just the fields of its kind count. */
    private static final class Command {
        int kind;
        int ticks;
        int flag;
        int action;
        int which;
        int session;
        int target;
        int q;
        int up;
        int number;
        int bank;
        int word;
        int many;
        int value;
        int area;
        int mode;
        boolean kill;

        void setSelect(int ofFlag, int toDo) {
            kind = SELECT;
            ticks = 5;
            flag = ofFlag;
            action = toDo;
        }

        void setQuery(int whichTags, int ofSession, int ofTarget, int withQ) {
            kind = QUERY;
            ticks = 4;
            which = whichTags;
            session = ofSession;
            target = ofTarget;
            q = withQ;
        }

        void setAdjust(int ofSession, int steps) {
            kind = ADJUST;
            ticks = 2;
            session = ofSession;
            up = steps;
        }

        void setNext(int ofSession) {
            kind = NEXT;
            ticks = 1;
            session = ofSession;
        }

        // For all that names a number drawn, or nothing at all.
        void setNumber(int ofKind, int itsTicks, int ofNumber) {
            kind = ofKind;
            ticks = itsTicks;
            number = ofNumber;
        }

        void setWords(int ofBank, int first, int howMany) {
            bank = ofBank;
            word = first;
            many = howMany;
        }

        boolean isAnswered() {
            return kind != SELECT && kind != NAK;
        }

        boolean keepsHalfOf(boolean forKill) {
            return kind == RENEW || kind == PASS && kill == forKill;
        }
    }

    /** What was answered to the latest command that is answered. */
    private static final class Answer {
        int answers;
        int from = NONE;
        int length;
        final int[] words = new int[8];

        void clear() {
            answers = 0;
            from = NONE;
            length = 0;
        }

        void say(int tag, int word) {
            answers++;
            from = tag;
            if (words.length > 0) {
                words[0] = word;
                length = 1;
            }
        }

        void put(int word) {
            if (length >= 0 && length < words.length) {
                words[length] = word;
                length++;
            }
        }

        int size() {
            return answers == 1 ? length : 0;
        }

        int wordAt(int k) {
            return k >= 0 && k < size() && k < words.length ? words[k] : NONE;
        }

        int ticks() {
            if (answers == 0) {
                return 1;
            }
            return answers == 1 ? 2 + length : 2;
        }

        int outcome() {
            return Math.min(2, answers);
        }
    }

    /** The bits of the latest command. */
    private static final class Signal {
        static final int FIRST16 = 65535;
        static final int FIRST5 = 9;

        final int[] bits = new int[80];
        int length;

        static int step16(int sum, int bit) {
            int twice = sum << 1 & 65535;
            return (sum >>> 15 & 1) != bit ? twice ^ 4129 : twice;
        }

        static int step5(int sum, int bit) {
            int twice = sum << 1 & 31;
            return (sum >>> 4 & 1) != bit ? twice ^ 9 : twice;
        }

        int bitAt(int k) {
            return k >= 0 && k < length && k < bits.length ? bits[k] : NONE;
        }

        void put(int n, int width) {
            for (int i = width - 1; i >= 0; i--) {
                if (length >= 0 && length < bits.length) {
                    bits[length] = n >>> i & 1;
                    length++;
                }
            }
        }

        void encode(Command c, Mask m) {
            length = 0;
            switch (c.kind) {
                case SELECT:
                    putSelect(c, m);
                    break;
                case QUERY:
                    putQuery(c);
                    break;
                case ADJUST:
                    put(9, 4);
                    put(c.session, 2);
                    put(c.up == 0 ? 0 : c.up > 0 ? 6 : 3, 3);
                    break;
                case NEXT:
                    put(0, 2);
                    put(c.session, 2);
                    break;
                case ACK:
                    put(1, 2);
                    put(c.number, 16);
                    break;
                case NAK:
                    put(192, 8);
                    break;
                case RENEW:
                    put(193, 8);
                    put(c.number, 16);
                    putCheck16();
                    break;
                default:
                    putAccess(c);
                    break;
            }
        }

        void putSelect(Command c, Mask m) {
            put(10, 4);
            put(c.flag, 3);
            put(c.action, 3);
            put(m.bank, 2);
            put(m.bit, 8);
            put(m.length, 8);
            put(m.bits, m.length);
            putCheck16();
        }

        void putQuery(Command c) {
            put(8, 4);
            put(c.which, 2);
            put(c.session, 2);
            put(c.target, 1);
            put(c.q, 4);
            putCheck5();
        }

        void putAccess(Command c) {
            if (c.kind == READ) {
                put(194, 8);
                put(c.bank, 2);
                put(c.word, 8);
                put(c.many, 8);
            } else if (c.kind == WRITE) {
                put(195, 8);
                put(c.bank, 2);
                put(c.word, 8);
                put(c.value, 16);
            } else if (c.kind == LOCK) {
                put(197, 8);
                put(c.area, 2);
                put(c.mode, 2);
            } else {
                put(c.kill ? 196 : 198, 8);
                put(c.value, 16);
            }
            put(c.number, 16);
            putCheck16();
        }

        void putCheck16() {
            int sum = FIRST16;
            for (int i = 0; i < length && i < bits.length; i++) {
                sum = step16(sum, bits[i]);
            }
            put(~sum, 16);
        }

        void putCheck5() {
            int sum = FIRST5;
            for (int i = 0; i < length && i < bits.length; i++) {
                sum = step5(sum, bits[i]);
            }
            put(sum, 5);
        }
    }

    private static final class Mask {
        int bank = BANK_EPC;
        int bit;
        int length;
        int bits;

        void tell(int ofBank, int firstBit, int howLong, int theBits) {
            bank = ofBank;
            bit = firstBit;
            length = howLong;
            bits = theBits;
        }

        boolean matches(Memory m) {
            for (int i = 0; i < length; i++) {
                if (m.bitOf(bank, bit + i) != (bits >>> (length - 1 - i) & 1)) {
                    return false;
                }
            }
            return true;
        }
    }

    /** The words of a TAG, and what is locked of them. */
    private static final class Memory {
        static final int MOST_EPC = 4;
        static final int MAKER = 57856;

        final int[] codes = new int[4];
        final int[] epc;
        final int[] maker = new int[2];
        final int[] user = new int[4];
        final int[] modes = new int[4];

        Memory(int number, int words, int high, int low) {
            int many = Math.max(1, Math.min(MOST_EPC, words));
            epc = new int[EPC_AT + many];
            for (int i = 0; i < epc.length; i++) {
                if (i == EPC_AT - 1) {
                    epc[i] = 2048 * many;
                } else if (i >= EPC_AT) {
                    int pair = i < EPC_AT + 2 ? high : low;
                    epc[i] = i % 2 == 0 ? pair >>> 16 : pair & HIGHEST_WORD;
                }
            }
            if (maker.length == 2) {
                maker[0] = MAKER;
                maker[1] = number;
            }
            refreshSum();
        }

        private void refreshSum() {
            int sum = Signal.FIRST16;
            for (int i = 1; i < epc.length; i++) {
                for (int bit = 15; bit >= 0; bit--) {
                    sum = Signal.step16(sum, epc[i] >>> bit & 1);
                }
            }
            if (epc.length > 0) {
                epc[0] = sum ^ HIGHEST_WORD;
            }
        }

        int[] bankOf(int bank) {
            if (bank == BANK_CODES) {
                return codes;
            }
            if (bank == BANK_EPC) {
                return epc;
            }
            return bank == BANK_MAKER ? maker : user;
        }

        boolean has(int bank, int word, int many) {
            return bank >= 0 && bank <= BANK_USER && word >= 0 && word <= bankOf(bank).length - many;
        }

        // SUM and the word behind it are kept by the TAG itself.
        static boolean mayChange(int bank, int word) {
            return bank != BANK_MAKER && (bank != BANK_EPC || word >= EPC_AT);
        }

        int get(int bank, int word) {
            int[] row = bankOf(bank);
            return word >= 0 && word < row.length ? row[word] : NONE;
        }

        void set(int bank, int word, int value) {
            int[] row = bankOf(bank);
            if (word >= 0 && word < row.length) {
                row[word] = value;
            }
            if (bank == BANK_EPC) {
                refreshSum();
            }
        }

        int bitOf(int bank, int bit) {
            int word = bit >> 4;
            int[] row = bankOf(bank);
            return word >= 0 && word < row.length ? row[word] >>> (15 - (bit & 15)) & 1 : NONE;
        }

        static int areaOf(int bank, int word) {
            if (bank == BANK_CODES) {
                return word < 2 ? AREA_KILL : AREA_ACCESS;
            }
            return bank == BANK_EPC ? AREA_EPC : AREA_USER;
        }

        int modeOf(int area) {
            return area >= 0 && area < modes.length ? modes[area] : NONE;
        }

        void setMode(int area, int mode) {
            if (area >= 0 && area < modes.length) {
                modes[area] = mode;
            }
        }

        boolean isShut(int bank, int word, boolean secured) {
            int mode = modeOf(areaOf(bank, word));
            return mode == MODE_NEVER || mode == MODE_SECURED && !secured;
        }

        boolean isAccessFree() {
            return get(BANK_CODES, 2) == 0 && get(BANK_CODES, 3) == 0;
        }

        boolean isRight(boolean kill, int upper, int lower) {
            int at = kill ? 0 : 2;
            boolean any = upper != 0 || lower != 0;
            return any && at + 1 < codes.length && codes[at] == upper && codes[at + 1] == lower;
        }
    }

    private static final class Flags {
        final int[] bits = new int[PICKED + 1];
        int heldSince;

        int get(int flag) {
            return flag >= 0 && flag < bits.length ? bits[flag] : NONE;
        }

        void tell(int flag, int value, int now) {
            if (flag >= 0 && flag < bits.length) {
                bits[flag] = value;
            }
            if (flag == 1 && value == 1) {
                heldSince = now;
            }
        }

        void flip(int flag, int now) {
            tell(flag, 1 - get(flag), now);
        }

        void dropHeld() {
            tell(1, 0, 0);
        }

        void dropKept() {
            for (int i = 2; i < bits.length; i++) {
                bits[i] = 0;
            }
        }
    }

    private static final class Tag {
        static final int FLIP = 2;
        static final int NOTHING = 3;
        // What a SELECT does, by ACTION, to those that MATCH and to the others.
        static final int[] TO_MATCHING = {0, 0, NOTHING, FLIP, 1, 1, NOTHING, NOTHING};
        static final int[] TO_OTHERS = {1, NOTHING, 1, NOTHING, 0, NOTHING, 0, FLIP};

        final int number;
        final Clock clock;
        final Memory memory;
        final Flags flags = new Flags();
        int reach;
        boolean powered;
        int darkSince;
        int state = READY;
        int slot;
        int drawn;
        int handle = NONE;
        int cover = NONE;
        int session;
        int q;
        int seed;
        int timesRead;
        boolean lowerIsNext;
        boolean halfForKill;
        int upperHalf;

        Tag(int itsNumber, Clock theClock, Memory itsMemory) {
            number = itsNumber;
            clock = theClock;
            memory = itsMemory;
            darkSince = theClock.now;
            seed = itsNumber + 1;
        }

        void setPower(boolean on) {
            if (powered && !on) {
                darkSince = clock.now;
                flags.tell(0, 0, clock.now);
                if (state != KILLED) {
                    state = READY;
                }
                handle = NONE;
                cover = NONE;
            }
            powered = on;
        }

        void fade() {
            if (clock.now - flags.heldSince >= clock.hold) {
                flags.dropHeld();
            }
            if (!powered && clock.now - darkSince >= clock.keep) {
                flags.dropKept();
            }
        }

        int ticksLeftOf(int flag) {
            if (flags.get(flag) != 1) {
                return NONE;
            }
            if (flag == 1) {
                return flags.heldSince + clock.hold - clock.now;
            }
            return powered ? NONE : darkSince + clock.keep - clock.now;
        }

        boolean isInRound(int ofSession) {
            return state != READY && state != KILLED && session == ofSession;
        }

        boolean isSingled() {
            return state == KNOWN || isOpen();
        }

        boolean isOpen() {
            return state == OPEN || state == SECURED;
        }

        int draw() {
            seed = 1103515245 * seed + 12345;
            return seed >>> 8 & HIGHEST_WORD;
        }

        int foreseenSlot(int withQ) {
            int before = seed;
            int slotThen = draw() & (1 << withQ) - 1;
            seed = before;
            return slotThen;
        }

        boolean wouldDraw(int ofSession, int target) {
            int now = flags.get(ofSession);
            boolean flips = isSingled() && session == ofSession;
            return (flips ? 1 - now : now) == target;
        }

        int told(int what) {
            boolean inRound = state != READY && state != KILLED;
            switch (what) {
                case 0:
                    return reach;
                case 1:
                    return powered ? 1 : 0;
                case 2:
                    return state;
                case 3:
                    return state == WAITS || state == REPLIES ? slot : NONE;
                case 4:
                    return state == REPLIES || state == KNOWN ? drawn : NONE;
                case 5:
                    return handle;
                case 6:
                    return cover;
                case 7:
                    return inRound ? session : NONE;
                case 8:
                    return inRound ? q : NONE;
                case 9:
                    return memory.epc.length - EPC_AT;
                case 11:
                    return timesRead;
                case 12:
                    return lowerIsNext ? 1 : 0;
                default:
                    return powered ? NONE : clock.now - darkSince;
            }
        }

        void obey(Command c, Mask mask, Answer a) {
            if (!c.keepsHalfOf(halfForKill)) {
                lowerIsNext = false;
            }
            switch (c.kind) {
                case SELECT:
                    obeySelect(c, mask.matches(memory));
                    break;
                case QUERY:
                    obeyQuery(c, a);
                    break;
                case ADJUST:
                case NEXT:
                    obeyStep(c, a);
                    break;
                case ACK:
                    obeyAck(c, a);
                    break;
                case NAK:
                    if (state >= REPLIES) {
                        waitOn();
                    }
                    break;
                case RENEW:
                    obeyRenew(c, a);
                    break;
                default:
                    obeyAccess(c, a);
                    break;
            }
        }

        void beReady() {
            state = READY;
            handle = NONE;
            cover = NONE;
        }

        void waitOn() {
            state = WAITS;
            handle = NONE;
            cover = NONE;
        }

        void drawSlot(int withQ, Answer a) {
            q = withQ;
            slot = draw() & (1 << withQ) - 1;
            replyOrWait(a);
        }

        void replyOrWait(Answer a) {
            if (slot == 0) {
                state = REPLIES;
                drawn = draw();
                a.say(number, drawn);
            } else {
                waitOn();
            }
        }

        void obeySelect(Command c, boolean matched) {
            beReady();
            int toDo = toDoBy(matched ? TO_MATCHING : TO_OTHERS, c.action);
            if (toDo == FLIP) {
                flags.flip(c.flag, clock.now);
            } else if (toDo != NOTHING) {
                flags.tell(c.flag, c.flag == PICKED ? 1 - toDo : toDo, clock.now);
            }
        }

        static int toDoBy(int[] row, int action) {
            return action >= 0 && action < row.length ? row[action] : NOTHING;
        }

        void obeyQuery(Command c, Answer a) {
            if (isSingled() && session == c.session) {
                flags.flip(session, clock.now);
            }
            boolean meant = c.which == 0 || (c.which == 2) == (flags.get(PICKED) == 1);
            if (meant && flags.get(c.session) == c.target) {
                session = c.session;
                drawSlot(c.q, a);
            } else {
                beReady();
            }
        }

        void obeyStep(Command c, Answer a) {
            if (!isInRound(c.session)) {
                return;
            }
            if (isSingled()) {
                flags.flip(session, clock.now);
                beReady();
            } else if (c.kind == ADJUST) {
                drawSlot(Math.max(0, Math.min(HIGHEST_Q, q + c.up)), a);
            } else {
                slot = slot == 0 ? 32767 : slot - 1;
                replyOrWait(a);
            }
        }

        void obeyAck(Command c, Answer a) {
            boolean named = (state == REPLIES || state == KNOWN) && drawn == c.number;
            if (named) {
                state = KNOWN;
            }
            if (named || isOpen() && handle == c.number) {
                a.say(number, memory.get(BANK_EPC, 1));
                for (int i = EPC_AT; i < memory.epc.length; i++) {
                    a.put(memory.epc[i]);
                }
                a.put(memory.get(BANK_EPC, 0));
            } else if (state >= REPLIES) {
                waitOn();
            }
        }

        void obeyRenew(Command c, Answer a) {
            if (state == KNOWN && drawn == c.number) {
                handle = draw();
                state = memory.isAccessFree() ? SECURED : OPEN;
                a.say(number, handle);
            } else if (isOpen() && handle == c.number) {
                cover = draw();
                a.say(number, cover);
            } else if (state == REPLIES || state == KNOWN) {
                waitOn();
            }
        }

        void obeyAccess(Command c, Answer a) {
            if (state == REPLIES || state == KNOWN) {
                waitOn();
                return;
            }
            if (!isOpen() || handle != c.number) {
                return;
            }
            if (c.kind == PASS) {
                obeyPass(c, a);
                return;
            }
            int code = codeOf(c);
            if (code != 0) {
                a.say(number, REFUSED + code);
                return;
            }
            a.say(number, handle);
            if (c.kind == READ) {
                for (int i = 0; i < c.many; i++) {
                    a.put(memory.get(c.bank, c.word + i));
                }
            } else if (c.kind == WRITE) {
                memory.set(c.bank, c.word, c.value ^ cover);
                cover = NONE;
            } else {
                memory.setMode(c.area, c.mode);
            }
        }

        // Why it cannot, or 0.
        int codeOf(Command c) {
            if (c.kind == LOCK) {
                int mode = memory.modeOf(c.area);
                boolean may = state == SECURED && (mode < MODE_FOR_GOOD || mode == c.mode);
                return may ? 0 : MAY_NOT;
            }
            if (!memory.has(c.bank, c.word, c.many)) {
                return NO_WORDS;
            }
            if (c.kind == WRITE) {
                boolean may = Memory.mayChange(c.bank, c.word) && !memory.isShut(c.bank, c.word, state == SECURED);
                if (!may) {
                    return MAY_NOT;
                }
                return cover == NONE ? NO_COVER : 0;
            }
            for (int i = 0; i < c.many && c.bank == BANK_CODES; i++) {
                if (memory.isShut(c.bank, c.word + i, state == SECURED)) {
                    return MAY_NOT;
                }
            }
            return 0;
        }

        void obeyPass(Command c, Answer a) {
            if (cover == NONE) {
                a.say(number, REFUSED + NO_COVER);
                return;
            }
            int half = c.value ^ cover;
            cover = NONE;
            if (!lowerIsNext) {
                lowerIsNext = true;
                halfForKill = c.kill;
                upperHalf = half;
                a.say(number, handle);
                return;
            }
            lowerIsNext = false;
            if (memory.isRight(c.kill, upperHalf, half)) {
                state = c.kill ? KILLED : SECURED;
                a.say(number, handle);
            } else {
                waitOn();
            }
        }
    }

    /** The latest that were READ, in a ring. */
    private static final class Journal {
        static final int MOST = 40;
        static final int KINDS = 4;

        final int[] entries = new int[MOST * KINDS];
        int total;

        void note(int reader, int tag, int session, int now) {
            int at = Math.floorMod(total, MOST) * KINDS;
            if (at >= 0 && at <= entries.length - KINDS) {
                entries[at] = reader;
                entries[at + 1] = tag;
                entries[at + 2] = session;
                entries[at + 3] = now;
            }
            total++;
        }

        int get(int k, int what) {
            if (k < 0 || k >= MOST || k >= total) {
                return NONE;
            }
            int at = Math.floorMod(total - 1 - k, MOST) * KINDS + what;
            return at >= 0 && at < entries.length ? entries[at] : NONE;
        }
    }
}
