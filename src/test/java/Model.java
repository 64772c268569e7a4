import java.math.BigInteger;
import java.util.ArrayList;
import java.util.Arrays;
import java.util.List;
import java.util.NoSuchElementException;

/**
 * The document once more, written as it reads and without a thought for speed: time goes tick by tick,
 * bits are texts, what would be is tried on copies. TagRounds is compared with it call by call.
 */
public final class Model {
    static final int NONE = -1;

    static final class T {
        int id, reach, state, slot, number, handle = NONE, cover = NONE, session, q, seed, reads, held, dark, upper;
        int[][] bank = new int[4][];
        int[] mode = new int[4];
        boolean[] flag = new boolean[5];
        Boolean half; // of which password the upper half was told: TRUE for KILL

        boolean in(int... states) {
            for (int s : states) {
                if (s == state) {
                    return true;
                }
            }
            return false;
        }

        int draw() {
            seed = seed * 1103515245 + 12345;
            return (seed >> 8) & 0xffff;
        }

        int flagOf(int f) {
            return flag[f] ? 1 : 0;
        }

        void tell(int f, boolean b) {
            flag[f] = b;
            if (f == 1 && b) {
                held = 0;
            }
        }

        void none() {
            handle = NONE;
            cover = NONE;
        }

        void ready() {
            state = 0;
            none();
        }

        void waits() {
            state = 1;
            none();
        }
    }

    int now, frame, hold = 500, keep = 1000, everRead;
    boolean[] on = new boolean[4];
    int[] from = new int[4], ticks = new int[4], aim = {400, 400, 400, 400}, push = {25, 25, 25, 25};
    int[] slots = new int[4], empty = new int[4], single = new int[4], clash = new int[4], readNow = new int[4], readEver = new int[4];
    List<T> tags = new ArrayList<>();
    int maskBank = 1, maskBit, maskLong, maskBits;
    List<Integer> heard = new ArrayList<>();
    String sent = "";
    List<int[]> log = new ArrayList<>();

    // answers of the command under way
    List<T> who = new ArrayList<>();
    List<List<Integer>> said = new ArrayList<>();

    static void index(boolean ok) {
        if (!ok) {
            throw new IndexOutOfBoundsException();
        }
    }

    static void argument(boolean ok) {
        if (!ok) {
            throw new IllegalArgumentException();
        }
    }

    static void element(boolean ok) {
        if (!ok) {
            throw new NoSuchElementException();
        }
    }

    static boolean within(int n, int a, int b) {
        return n >= a && n <= b;
    }

    void isReader(int r) {
        index(within(r, 0, 3));
    }

    T isTag(int t) {
        index(t >= 0 && t < tags.size());
        return tags.get(t);
    }

    void can(int r) {
        if (!on[r] || now == 99999) {
            throw new IllegalStateException();
        }
    }

    boolean busy(int r) {
        return on[r] && frame > 0 && now % frame >= from[r] && now % frame < from[r] + ticks[r];
    }

    static boolean reaches(int r, T t) {
        return (t.reach & (1 << r)) != 0;
    }

    boolean hears(T t, int r) {
        boolean free = true;
        for (int o = 0; o < 4; o++) {
            if (o != r && reaches(o, t) && busy(o)) {
                free = false;
            }
        }
        return on[r] && reaches(r, t) && free;
    }

    boolean power(T t) {
        boolean any = false;
        for (int r = 0; r < 4; r++) {
            any |= on[r] && reaches(r, t);
        }
        return any;
    }

    static String bits(int n, int width) {
        StringBuilder b = new StringBuilder();
        for (int i = width - 1; i >= 0; i--) {
            b.append((n >> i) & 1);
        }
        return b.toString();
    }

    static int check(String s, int width, int first, int by) {
        int row = first;
        for (char c : s.toCharArray()) {
            boolean unlike = (row >> (width - 1)) != c - '0';
            row = (row * 2) % (1 << width);
            if (unlike) {
                row ^= by;
            }
        }
        return row;
    }

    static int check16(String s) {
        return 65535 - check(s, 16, 65535, 4129);
    }

    static void sum(T t) {
        StringBuilder b = new StringBuilder();
        for (int i = 1; i < t.bank[1].length; i++) {
            b.append(bits(t.bank[1][i], 16));
        }
        t.bank[1][0] = check16(b.toString());
    }

    // what loses its POWER does so in the very call
    void powers(boolean[] before) {
        for (int i = 0; i < tags.size(); i++) {
            T t = tags.get(i);
            if (before[i] && !power(t)) {
                t.dark = 0;
                t.flag[0] = false;
                t.none();
                if (t.state != 6) {
                    t.state = 0;
                }
            }
        }
    }

    boolean[] powersNow() {
        boolean[] p = new boolean[tags.size()];
        for (int i = 0; i < p.length; i++) {
            p[i] = power(tags.get(i));
        }
        return p;
    }

    void gone() {
        for (T t : tags) {
            if (t.held >= hold) {
                t.flag[1] = false;
            }
            if (!power(t) && t.dark >= keep) {
                t.flag[2] = false;
                t.flag[3] = false;
                t.flag[4] = false;
            }
        }
    }

    void go(int n) {
        for (int i = 0; i < n && now < 99999; i++) {
            now++;
            for (T t : tags) {
                t.held++;
                t.dark++;
            }
            gone();
        }
    }

    public int add(int reach, int words, int high, int low) {
        argument(within(reach, 0, 15) && within(words, 1, 4));
        if (tags.size() == 16) {
            throw new IllegalStateException();
        }
        T t = new T();
        t.id = tags.size();
        t.reach = reach;
        t.seed = t.id + 1;
        t.bank[0] = new int[4];
        t.bank[1] = new int[2 + words];
        t.bank[2] = new int[] {57856, t.id};
        t.bank[3] = new int[4];
        t.bank[1][1] = 2048 * words;
        String all = bits(high, 32) + bits(low, 32);
        for (int i = 0; i < words; i++) {
            t.bank[1][2 + i] = Integer.parseInt(all.substring(16 * i, 16 * i + 16), 2);
        }
        sum(t);
        tags.add(t);
        return t.id;
    }

    public int move(int tag, int reach) {
        T t = isTag(tag);
        argument(within(reach, 0, 15));
        boolean[] before = powersNow();
        int was = t.reach;
        t.reach = reach;
        powers(before);
        return was;
    }

    public boolean power(int r, boolean b) {
        isReader(r);
        boolean[] before = powersNow();
        boolean was = on[r];
        on[r] = b;
        powers(before);
        return was != b;
    }

    public int time(int what, int n) {
        element(within(what, 0, 2));
        argument(what == 0 ? within(n, 0, 999) : within(n, 1, 9999));
        int was = count(what + 2);
        if (what == 0) {
            frame = n;
        } else if (what == 1) {
            hold = n;
        } else {
            keep = n;
        }
        gone();
        return was;
    }

    public void slice(int r, int a, int n) {
        isReader(r);
        argument(within(a, 0, 999) && within(n, 0, 999));
        from[r] = a;
        ticks[r] = n;
    }

    public int rest(int n) {
        argument(within(n, 1, 9999));
        go(n);
        return now;
    }

    public int seed(int tag, int n) {
        T t = isTag(tag);
        int was = t.seed;
        t.seed = n;
        return was;
    }

    public int store(int tag, int bank, int word, int value) {
        T t = isTag(tag);
        index(bank == 0 || bank == 1 || bank == 3);
        index(word >= (bank == 1 ? 2 : 0) && word < t.bank[bank].length);
        argument(within(value, 0, 65535));
        int was = t.bank[bank][word];
        t.bank[bank][word] = value;
        sum(t);
        return was;
    }

    public void mask(int bank, int bit, int length, int bits) {
        argument(within(bank, 1, 3) && within(bit, 0, 255) && within(length, 0, 31));
        maskBank = bank;
        maskBit = bit;
        maskLong = length;
        maskBits = bits;
    }

    boolean matches(T t) {
        StringBuilder b = new StringBuilder();
        for (int w : t.bank[maskBank]) {
            b.append(bits(w, 16));
        }
        String m = bits(maskBits, maskLong);
        return maskLong == 0 || maskBit + maskLong <= b.length() && b.substring(maskBit, maskBit + maskLong).equals(m);
    }

    List<T> doers(int r) {
        List<T> l = new ArrayList<>();
        for (T t : tags) {
            if (hears(t, r) && t.state != 6) {
                l.add(t);
            }
        }
        return l;
    }

    List<T> begin(int r, String s) {
        sent = s;
        who.clear();
        said.clear();
        return doers(r);
    }

    void answer(T t, int... words) {
        who.add(t);
        List<Integer> l = new ArrayList<>();
        for (int w : words) {
            l.add(w);
        }
        said.add(l);
    }

    int end(int own) {
        heard = said.size() == 1 ? said.get(0) : new ArrayList<>();
        go(own + (said.isEmpty() ? 1 : said.size() == 1 ? 2 + said.get(0).size() : 2));
        return Math.min(said.size(), 2);
    }

    static void upperNext(T t) {
        t.half = null;
    }

    public int select(int r, int f, int action) {
        isReader(r);
        argument(within(f, 0, 4) && within(action, 0, 7));
        can(r);
        String s = "1010" + bits(f, 3) + bits(action, 3) + bits(maskBank, 2) + bits(maskBit, 8) + bits(maskLong, 8) + bits(maskBits, maskLong);
        String[] table = {"01", "0.", ".1", "x.", "10", "1.", ".0", ".x"};
        int n = 0;
        for (T t : begin(r, s + bits(check16(s), 16))) {
            upperNext(t);
            t.ready();
            boolean m = matches(t);
            n += m ? 1 : 0;
            char c = table[action].charAt(m ? 0 : 1);
            if (c == 'x') {
                t.tell(f, !t.flag[f]);
            } else if (c != '.') {
                t.tell(f, c == '1' ^ f == 4);
            }
        }
        go(5);
        return n;
    }

    static void flip(T t) {
        t.tell(t.session, !t.flag[t.session]);
    }

    void drawSlot(T t, int q) {
        t.q = q;
        t.slot = t.draw() % (1 << q);
        slotted(t);
    }

    void slotted(T t) {
        if (t.slot == 0) {
            t.state = 2;
            t.number = t.draw();
            answer(t, t.number);
        } else {
            t.waits();
        }
    }

    public int query(int r, int which, int session, int target, int q) {
        isReader(r);
        argument(within(which, 0, 2) && within(session, 0, 3) && within(target, 0, 1) && within(q, 0, 15));
        can(r);
        String s = "1000" + bits(which, 2) + bits(session, 2) + bits(target, 1) + bits(q, 4);
        for (T t : begin(r, s + bits(check(s, 5, 9, 9), 5))) {
            upperNext(t);
            if (t.in(3, 4, 5) && t.session == session) {
                flip(t);
            }
            boolean of = which == 0 || which == 1 && !t.flag[4] || which == 2 && t.flag[4];
            if (of && t.flagOf(session) == target) {
                t.session = session;
                drawSlot(t, q);
            } else {
                t.ready();
            }
        }
        return end(4);
    }

    public int adjust(int r, int session, int up) {
        isReader(r);
        argument(within(session, 0, 3) && within(up, -1, 1));
        can(r);
        for (T t : begin(r, "1001" + bits(session, 2) + (up == 0 ? "000" : up == 1 ? "110" : "011"))) {
            upperNext(t);
            if (t.state == 0 || t.session != session) {
                continue;
            }
            if (t.in(3, 4, 5)) {
                flip(t);
                t.ready();
            } else {
                drawSlot(t, Math.max(0, Math.min(15, t.q + up)));
            }
        }
        return end(2);
    }

    public int next(int r, int session) {
        isReader(r);
        argument(within(session, 0, 3));
        can(r);
        for (T t : begin(r, "00" + bits(session, 2))) {
            upperNext(t);
            if (t.state == 0 || t.session != session) {
                continue;
            }
            if (t.in(3, 4, 5)) {
                flip(t);
                t.ready();
            } else {
                t.slot = (t.slot + 32767) % 32768;
                slotted(t);
            }
        }
        return end(1);
    }

    public int ack(int r, int number) {
        isReader(r);
        can(r);
        for (T t : begin(r, "01" + bits(number, 16))) {
            upperNext(t);
            if (t.in(2, 3) && t.number == number || t.in(4, 5) && t.handle == number) {
                if (t.in(2, 3)) {
                    t.state = 3;
                }
                int[] words = new int[t.bank[1].length];
                System.arraycopy(t.bank[1], 1, words, 0, words.length - 1);
                words[words.length - 1] = t.bank[1][0];
                answer(t, words);
            } else if (t.in(2, 3, 4, 5)) {
                t.waits();
            }
        }
        return end(2);
    }

    public int nak(int r) {
        isReader(r);
        can(r);
        for (T t : begin(r, "11000000")) {
            upperNext(t);
            if (t.in(2, 3, 4, 5)) {
                t.waits();
            }
        }
        go(1);
        return 0;
    }

    public int renew(int r, int number) {
        isReader(r);
        can(r);
        String s = "11000001" + bits(number, 16);
        for (T t : begin(r, s + bits(check16(s), 16))) {
            if (t.state == 3 && t.number == number) {
                t.handle = t.draw();
                t.state = t.bank[0][2] + t.bank[0][3] == 0 ? 5 : 4;
                answer(t, t.handle);
            } else if (t.in(4, 5) && t.handle == number) {
                t.cover = t.draw();
                answer(t, t.cover);
            } else if (t.in(2, 3)) {
                t.waits();
            }
        }
        return end(4);
    }

    List<T> access(int r, String s, int handle, Boolean passFor) {
        String all = s + bits(handle, 16);
        List<T> theOnes = new ArrayList<>();
        for (T t : begin(r, all + bits(check16(all), 16))) {
            if (passFor == null || !passFor.equals(t.half)) {
                upperNext(t);
            }
            if (t.in(2, 3)) {
                t.waits();
            } else if (t.in(4, 5) && t.handle == handle) {
                theOnes.add(t);
            }
        }
        return theOnes;
    }

    static boolean shut(T t, int area) {
        return t.mode[area] == 3 || t.mode[area] == 1 && t.state == 4;
    }

    public int read(int r, int handle, int bank, int word, int many) {
        isReader(r);
        argument(within(bank, 0, 3) && within(many, 1, 4));
        can(r);
        for (T t : access(r, "11000010" + bits(bank, 2) + bits(word, 8) + bits(many, 8), handle, null)) {
            int code = 0;
            int[] words = new int[1 + many];
            words[0] = t.handle;
            for (long w = word; w < (long) word + many; w++) {
                if (w < 0 || w >= t.bank[bank].length) {
                    code = 3;
                    break;
                }
                words[1 + (int) (w - word)] = t.bank[bank][(int) w];
                if (bank == 0 && shut(t, (int) w / 2)) {
                    code = 4;
                }
            }
            if (code == 0) {
                answer(t, words);
            } else {
                answer(t, 65536 + code);
            }
        }
        return end(4);
    }

    public int write(int r, int handle, int bank, int word, int value) {
        isReader(r);
        argument(within(bank, 0, 3) && within(value, 0, 65535));
        can(r);
        for (T t : access(r, "11000011" + bits(bank, 2) + bits(word, 8) + bits(value, 16), handle, null)) {
            boolean there = word >= 0 && word < t.bank[bank].length;
            boolean may = there && bank != 2 && !(bank == 1 && word < 2) && !shut(t, bank == 0 ? word / 2 : bank == 1 ? 2 : 3);
            if (!there) {
                answer(t, 65539);
            } else if (!may) {
                answer(t, 65540);
            } else if (t.cover == NONE) {
                answer(t, 65551);
            } else {
                t.bank[bank][word] = value ^ t.cover;
                t.cover = NONE;
                sum(t);
                answer(t, t.handle);
            }
        }
        return end(4);
    }

    public int lock(int r, int handle, int area, int mode) {
        isReader(r);
        argument(within(area, 0, 3) && within(mode, 0, 3));
        can(r);
        for (T t : access(r, "11000101" + bits(area, 2) + bits(mode, 2), handle, null)) {
            if (t.state != 5 || t.mode[area] >= 2 && t.mode[area] != mode) {
                answer(t, 65540);
            } else {
                t.mode[area] = mode;
                answer(t, t.handle);
            }
        }
        return end(4);
    }

    public int pass(int r, int handle, int half, boolean kill) {
        isReader(r);
        argument(within(half, 0, 65535));
        can(r);
        for (T t : access(r, (kill ? "11000100" : "11000110") + bits(half, 16), handle, kill)) {
            if (t.cover == NONE) {
                answer(t, 65551);
                continue;
            }
            int plain = half ^ t.cover;
            t.cover = NONE;
            if (t.half == null) {
                t.half = kill;
                t.upper = plain;
                answer(t, t.handle);
                continue;
            }
            t.half = null;
            int right = (t.bank[0][kill ? 0 : 2] << 16) | t.bank[0][kill ? 1 : 3];
            if (right != 0 && right == ((t.upper << 16) | plain)) {
                t.state = kill ? 6 : 5;
                answer(t, t.handle);
            } else {
                t.waits();
            }
        }
        return end(4);
    }

    public int heard(int k) {
        return k == NONE ? heard.size() : k >= 0 && k < heard.size() ? heard.get(k) : NONE;
    }

    public int steer(int r, int what, int n) {
        isReader(r);
        element(within(what, 0, 1));
        argument(what == 0 ? within(n, 0, 1500) : within(n, 1, 100));
        int[] row = what == 0 ? aim : push;
        int was = row[r];
        row[r] = n;
        return was;
    }

    int qOf(int r) {
        return (aim[r] + 50) / 100;
    }

    public int round(int r, int which, int session, int target, int most) {
        isReader(r);
        argument(within(which, 0, 2) && within(session, 0, 3) && within(target, 0, 1) && within(most, 1, 400));
        can(r);
        slots[r] = empty[r] = single[r] = clash[r] = readNow[r] = 0;
        int q = qOf(r);
        int left = 1 << q;
        boolean clashed = false;
        int a = query(r, which, session, target, q);
        while (true) {
            slots[r]++;
            if (a == 0) {
                empty[r]++;
                aim[r] = Math.max(0, aim[r] - push[r]);
            } else if (a == 2) {
                clash[r]++;
                clashed = true;
                aim[r] = Math.min(1500, aim[r] + push[r]);
            } else {
                single[r]++;
                if (now == 99999) {
                    return readNow[r];
                }
                int ahead = now;
                if (ack(r, heard.get(0)) == 1) {
                    who.get(0).reads++;
                    readNow[r]++;
                    readEver[r]++;
                    everRead++;
                    log.add(0, new int[] {r, who.get(0).id, session, ahead});
                }
            }
            left--;
            if (now == 99999) {
                return readNow[r];
            }
            if (slots[r] == most) {
                next(r, session);
                return readNow[r];
            } else if (qOf(r) != q) {
                int up = qOf(r) > q ? 1 : -1;
                a = adjust(r, session, up);
                q += up;
                left = 1 << q;
                clashed = false;
            } else if (left == 0 && clashed) {
                a = query(r, which, session, target, q);
                left = 1 << q;
                clashed = false;
            } else if (left == 0) {
                next(r, session);
                return readNow[r];
            } else {
                a = next(r, session);
            }
        }
    }

    public int sent(int k) {
        return k == NONE ? sent.length() : k >= 0 && k < sent.length() ? sent.charAt(k) - '0' : NONE;
    }

    int[] foreseen(int r, int session, int target, int q) {
        int[] in = new int[1 << q];
        for (T t : doers(r)) {
            boolean f = t.flag[session] ^ (t.in(3, 4, 5) && t.session == session);
            if (f == (target == 1)) {
                int keepSeed = t.seed;
                in[t.draw() % (1 << q)]++;
                t.seed = keepSeed;
            }
        }
        return in;
    }

    public int foresee(int r, int session, int target, int q, int what) {
        isReader(r);
        element(within(what, 0, 3));
        argument(within(session, 0, 3) && within(target, 0, 1) && within(q, 0, 15));
        int[] in = foreseen(r, session, target, q);
        int[] n = {0, 0, 0, NONE};
        for (int i = 0; i < in.length; i++) {
            n[Math.min(2, in[i])]++;
            if (in[i] == 1 && n[3] == NONE) {
                n[3] = i;
            }
        }
        return n[what];
    }

    public int wise(int r, int session, int target) {
        isReader(r);
        argument(within(session, 0, 3) && within(target, 0, 1));
        for (int q = 0; q <= 15; q++) {
            if (Arrays.stream(foreseen(r, session, target, q)).allMatch(n -> n < 2)) {
                return q;
            }
        }
        return NONE;
    }

    int chances(int r, T t) {
        int was = now;
        int n = 0;
        for (now = 0; now < Math.max(1, frame); now++) {
            n += hears(t, r) ? 1 : 0;
        }
        now = was;
        return n;
    }

    public int chances(int r, int tag) {
        isReader(r);
        return chances(r, isTag(tag));
    }

    int clear(int r) {
        int was = now;
        int found = NONE;
        for (int i = 0; i < Math.max(1, frame) && found == NONE; i++) {
            now = was + i;
            boolean free = true;
            for (T t : tags) {
                for (int o = 0; o < 4; o++) {
                    free &= o == r || !reaches(r, t) || !reaches(o, t) || !busy(o);
                }
            }
            if (free) {
                found = now;
            }
        }
        now = was;
        return found;
    }

    int[] plan() {
        int[] best = null;
        long fewest = 9;
        for (int i = 0; i < 256; i++) {
            int[] c = {i / 64, i / 16 % 4, i / 4 % 4, i % 4};
            boolean ok = true;
            for (T t : tags) {
                for (int a = 0; a < 4; a++) {
                    for (int b = 0; b < a; b++) {
                        ok &= !(reaches(a, t) && reaches(b, t)) || c[a] != c[b];
                    }
                }
            }
            long many = Arrays.stream(c).distinct().count();
            if (ok && many < fewest) {
                fewest = many;
                best = c;
            }
        }
        return best;
    }

    public int reader(int r, int what) {
        isReader(r);
        element(within(what, 0, 15));
        int reached = 0;
        int hearing = 0;
        for (T t : tags) {
            reached |= reaches(r, t) ? 1 << t.id : 0;
            hearing |= hears(t, r) ? 1 << t.id : 0;
        }
        switch (what) {
            case 0: return on[r] ? 1 : 0;
            case 1: return busy(r) ? 1 : 0;
            case 2: return aim[r];
            case 3: return push[r];
            case 4: return slots[r];
            case 5: return empty[r];
            case 6: return single[r];
            case 7: return clash[r];
            case 8: return readNow[r];
            case 9: return (239 * clash[r] + 100 * single[r]) / 100;
            case 10: return slots[r] == 0 ? 0 : 100 * single[r] / slots[r];
            case 11: return readEver[r];
            case 12: return clear(r);
            case 13: return plan()[r];
            case 14: return reached;
            default: return hearing;
        }
    }

    public int tag(int tag, int what) {
        T t = isTag(tag);
        element(within(what, 0, 14));
        switch (what) {
            case 0: return t.reach;
            case 1: return power(t) ? 1 : 0;
            case 2: return t.state;
            case 3: return t.in(1, 2) ? t.slot : NONE;
            case 4: return t.in(2, 3) ? t.number : NONE;
            case 5: return t.handle;
            case 6: return t.cover;
            case 7: return t.in(0, 6) ? NONE : t.session;
            case 8: return t.in(0, 6) ? NONE : t.q;
            case 9: return t.bank[1].length - 2;
            case 10: return matches(t) ? 1 : 0;
            case 11: return t.reads;
            case 12: return t.half == null ? 0 : 1;
            case 13:
                int best = NONE;
                for (int r = 3; r >= 0; r--) {
                    if (chances(r, t) > 0 && (best == NONE || chances(r, t) >= chances(best, t))) {
                        best = r;
                    }
                }
                return best;
            default: return power(t) ? NONE : t.dark;
        }
    }

    public int flag(int tag, int f) {
        T t = isTag(tag);
        argument(within(f, 0, 4));
        return t.flagOf(f);
    }

    public int fades(int tag, int f) {
        T t = isTag(tag);
        argument(within(f, 0, 4));
        if (!t.flag[f]) {
            return NONE;
        }
        if (f == 1) {
            return hold - t.held;
        }
        return power(t) ? NONE : keep - t.dark;
    }

    public int word(int tag, int bank, int word) {
        T t = isTag(tag);
        index(within(bank, 0, 3));
        index(word >= 0 && word < t.bank[bank].length);
        return t.bank[bank][word];
    }

    public int mode(int tag, int area) {
        T t = isTag(tag);
        argument(within(area, 0, 3));
        return t.mode[area];
    }

    public int log(int k, int what) {
        element(within(what, 0, 3));
        return k >= 0 && k < 40 && k < log.size() ? log.get(k)[what] : NONE;
    }

    public int left(int f, int value) {
        argument(within(f, 0, 4) && within(value, 0, 1));
        int b = 0;
        for (T t : tags) {
            b |= power(t) && t.state != 6 && t.flagOf(f) == value ? 1 << t.id : 0;
        }
        return b;
    }

    static BigInteger big(long n) {
        return BigInteger.valueOf(n);
    }

    public int rate(int n, int q) {
        argument(within(n, 1, 99) && within(q, -1, 15));
        if (q == NONE) {
            int best = 15;
            for (int i = 14; i >= 0; i--) {
                best = rate(n, i) >= rate(n, best) ? i : best;
            }
            return best;
        }
        BigInteger l = big(1L << q);
        BigInteger x = big(1000000).multiply(big(n)).divide(l);
        for (int i = 1; i < n; i++) {
            x = x.multiply(l.subtract(BigInteger.ONE)).divide(l);
        }
        return x.intValueExact();
    }

    public int count(int what) {
        int b = 0;
        switch (what) {
            case 0: return tags.size();
            case 1: return now;
            case 2: return frame;
            case 3: return hold;
            case 4: return keep;
            case 5:
                for (int r = 0; r < 4; r++) {
                    b |= on[r] ? 1 << r : 0;
                }
                return b;
            case 6:
                for (T t : tags) {
                    b |= power(t) ? 1 << t.id : 0;
                }
                return b;
            case 7:
                for (T t : tags) {
                    b |= t.state == 6 ? 1 << t.id : 0;
                }
                return b;
            case 8: return everRead;
            case 9: return (int) Arrays.stream(plan()).distinct().count();
            case 10:
                for (T t : tags) {
                    b |= matches(t) ? 1 << t.id : 0;
                }
                return b;
            case 11:
                for (T t : tags) {
                    b |= power(t) && tag(t.id, 13) == NONE ? 1 << t.id : 0;
                }
                return b;
            default: return NONE;
        }
    }
}
