import java.util.Arrays;

/** A craft and its ground: the face of the document. What each call does stands there. */
public final class CraftHouse {
    public static final int BAD = -1;
    public static final int NONE = -2;
    public static final int FULL = -3;

    private static final int UP = 0;
    private static final int DOWN = 1;

    private final Bytes tape = new Bytes(256);
    private final Bytes unit = new Bytes(Blocks.UNIT_ROOM);
    private final Line up = new Line(32000);
    private final Line down = new Line(64000);
    private final Uplink uplink = new Uplink();
    private final Ground ground = new Ground();
    private final Sender sender;
    private final GroundEar groundEar;
    private final Maker maker;
    private final Board board;

    public CraftHouse() {
        byte[] noise = Blocks.noise();
        sender = new Sender(up, ground);
        groundEar = new GroundEar(ground, noise);
        maker = new Maker(down, noise);
        board = new Board(maker, uplink);
    }

    // ---- the tape, codes

    public int feed(int v, int n) {
        if (n < 1 || n > 4) {
            return BAD;
        }
        if (tape.size + n > 256) {
            return FULL;
        }
        for (int i = n - 1; i >= 0; i--) {
            tape.put(v >> (8 * i));
        }
        return tape.size;
    }

    public int taped(int i) {
        return i < 0 || i >= tape.size ? BAD : tape.at(i);
    }

    public int wipe() {
        int had = tape.size;
        tape.clear();
        return had;
    }

    public int check() {
        return tape.checkOf(0, tape.size);
    }

    public int code(int what) {
        if (what == 0) {
            return tapeToUnit();
        }
        return what == 1 ? tapeToMended() : BAD;
    }

    private int tapeToUnit() {
        if (tape.size > Blocks.DATA_ROOM) {
            return refuseTape(FULL);
        }
        Blocks.wrap(tape, unit);
        tape.clear();
        tape.putAll(unit);
        return tape.size;
    }

    private int tapeToMended() {
        if (tape.size != 8) {
            return BAD;
        }
        long block = ((long) tape.four(0) << 32) | (tape.four(4) & 0xFFFFFFFFL);
        long wrong = Blocks.wrongBit(block);
        if (wrong == Blocks.NOT_MENDED) {
            return refuseTape(NONE);
        }
        tape.clear();
        tape.putSeven(block ^ wrong);
        return tape.size;
    }

    private int refuseTape(int answer) {
        tape.clear();
        return answer;
    }

    // ---- lines (0 up, 1 down)

    public int bits(int line) {
        return isLine(line) ? lineOf(line).count : BAD;
    }

    public int bit(int line, int i) {
        return isOnLine(line, i) ? lineOf(line).at(i) : BAD;
    }

    public int carry(int line, int n) {
        if (!isLine(line) || n < 0) {
            return BAD;
        }
        Line from = lineOf(line);
        int m = Math.min(n, from.count);
        for (int i = 0; i < m; i++) {
            int b = from.at(i);
            if (line == UP) {
                if (uplink.take(b)) {
                    dealUnit();
                }
            } else if (groundEar.take(b)) {
                hearFrame();
            }
        }
        from.dropFirst(m);
        return m;
    }

    public int turn(int line, int i) {
        if (!isOnLine(line, i)) {
            return BAD;
        }
        lineOf(line).flip(i);
        return lineOf(line).at(i);
    }

    public int slip(int line, int i) {
        if (!isOnLine(line, i)) {
            return BAD;
        }
        lineOf(line).dropOne(i);
        return lineOf(line).count;
    }

    public int lose(int line, int n) {
        if (!isLine(line) || n < 0) {
            return BAD;
        }
        lineOf(line).dropLast(n);
        return lineOf(line).count;
    }

    public int inject(int line) {
        if (!isLine(line)) {
            return BAD;
        }
        boolean fits = lineOf(line).putAll(tape);
        tape.clear();
        return fits ? lineOf(line).count : FULL;
    }

    private boolean isLine(int line) {
        return line == UP || line == DOWN;
    }

    private boolean isOnLine(int line, int i) {
        return isLine(line) && i >= 0 && i < lineOf(line).count;
    }

    private Line lineOf(int line) {
        return line == UP ? up : down;
    }

    private void dealUnit() {
        int place = 0;
        for (int i = 0; i < Blocks.DATA_ROOM; i++) {
            int n = uplink.frameBytes(place);
            if (n == 0) {
                break;
            }
            if (uplink.dealFrame(place, n, board.hasRoom())) {
                uplink.copyContent(place, n, board.given);
                board.look(0);
            }
            place += n;
        }
        uplink.endUnit();
    }

    private void hearFrame() {
        if (!groundEar.frameIsSound()) {
            return;
        }
        // GO is called from here, and not by what heard the report, so that calls stay shallow
        if (groundEar.findReport() && sender.hear(groundEar.flags, groundEar.v)) {
            sender.go();
        }
        groundEar.joinPackets();
    }

    // ---- the ground's requests

    public int build(int service, int subtype, int acks) {
        if (!mayRequest(service, subtype, acks)) {
            return BAD;
        }
        if (tape.size + Ground.PACKET_REST > 100) {
            return refuseTape(FULL);
        }
        int number = ground.newRequest(service, subtype, acks, tape, Ground.BUILT);
        tape.clear();
        tape.putAll(ground.packet);
        return number;
    }

    public int request(int service, int subtype, int acks, boolean bypass) {
        if (!mayRequest(service, subtype, acks)) {
            return BAD;
        }
        if (!bypass && !sender.takesRequests()) {
            return refuseTape(NONE);
        }
        if (tape.size + Ground.PACKET_REST > 60 || (!bypass && !sender.hasRoom())) {
            return refuseTape(FULL);
        }
        int number = ground.newRequest(service, subtype, acks, tape, bypass ? Ground.SENT : Ground.WAITING);
        tape.clear();
        if (bypass) {
            sender.sendBypass(ground.packet);
        } else {
            sender.putWaiting(ground.packet, number);
            sender.go();
        }
        return number;
    }

    private boolean mayRequest(int service, int subtype, int acks) {
        return isByte(service) && isByte(subtype) && acks >= 0 && acks <= 15;
    }

    private boolean isByte(int v) {
        return v >= 0 && v <= 255;
    }

    public int requests() {
        return ground.total;
    }

    public int became(int number, int what) {
        if (!ground.hasRequest(number)) {
            return BAD;
        }
        switch (what) {
            case 0: return ground.statusOf(number);
            case 1: return ground.reasonOf(number);
            case 2: return ground.kindOf(number) >> 8;
            case 3: return ground.kindOf(number) & 255;
            default: return BAD;
        }
    }

    public int direct(int what, int v) {
        if (!mayDirect(what, v)) {
            return BAD;
        }
        if (what == 11) {
            uplink.w = v;
            return 1;
        }
        if (what >= 7) {
            sender.setNumber(what, v);
            return 1;
        }
        if (!sender.stateFits(what)) {
            return NONE;
        }
        if (sender.obey(what, v)) {
            sender.go();
        }
        return 1;
    }

    private boolean mayDirect(int what, int v) {
        switch (what) {
            case 0: case 1: case 2: case 4: case 5: return true;
            case 3: case 6: return isByte(v);
            case 7: return v >= 1 && v <= 32;
            case 8: return v >= 1 && v <= 1000;
            case 9: return v >= 1 && v <= 15;
            case 10: return v == 0 || v == 1;
            case 11: return v >= 2 && v <= 254 && (v & 1) == 0;
            default: return false;
        }
    }

    public int machine(int what) {
        return sender.tell(what);
    }

    // ---- the ground's ear and what came

    public int ear(int what, int v) {
        if (what < 0 || what > 1 || v < 0 || v > 3) {
            return BAD;
        }
        return what == 0 ? groundEar.changeE(v) : groundEar.changeF(v);
    }

    public int came(int what) {
        switch (what) {
            case 0: return groundEar.locked ? 1 : 0;
            case 1: return groundEar.misses;
            case 2: return groundEar.frames;
            case 3: return groundEar.bad;
            case 4: return groundEar.gaps;
            case 5: return ground.archivedInAll;
            case 6: return ground.badPackets;
            case 7: return ground.missing;
            case 8: return groundEar.reports;
            case 9: return groundEar.reports == 0 ? NONE : groundEar.v;
            case 10: return groundEar.reports == 0 ? NONE : groundEar.flags;
            default: return BAD;
        }
    }

    public int archived(int i, int what) {
        int n = ground.placeOf(i);
        if (n < 0) {
            return BAD;
        }
        Shelf archive = ground.archive;
        switch (what) {
            case 0: return archive.tagOf(n);
            case 1: return archive.byteOf(n, 7);
            case 2: return archive.byteOf(n, 8);
            case 3: return (archive.twoOf(n, 9) << 16) | archive.twoOf(n, 11);
            case 4: return archive.twoOf(n, 2) & Ground.COUNT_MASK;
            case 5: return archive.sizeOf(n);
            default: return BAD;
        }
    }

    public int archivedByte(int i, int k) {
        int n = ground.placeOf(i);
        if (n < 0 || k < 0 || k >= ground.archive.sizeOf(n)) {
            return BAD;
        }
        return ground.archive.byteOf(n, k);
    }

    public int shown(int p, int what) {
        if (p < 0 || p >= Board.PARAMETERS) {
            return 0;
        }
        switch (what) {
            case 0: return ground.shownThere[p];
            case 1: return ground.shownValue[p];
            case 2: return ground.shownTick[p];
            default: return 0;
        }
    }

    // ---- the craft

    public int tick(int n) {
        if (n < 0 || n > 200) {
            return BAD;
        }
        for (int i = 0; i < n; i++) {
            maker.tick++;
            board.runSchedule();
            board.runStructures();
            board.runWatches();
            board.runRequests();
            maker.sendFrame(uplink.reportBits(), uplink.v);
            if (sender.timerEnds() && sender.timeIsOut()) {
                sender.go();
            }
        }
        return maker.tick;
    }

    public int sense(int p, int v) {
        if (p < 0 || p > Board.LAST_OPEN) {
            return 0;
        }
        int was = board.parameters[p];
        board.parameters[p] = v;
        return was;
    }

    public int parameter(int p) {
        return p < 0 || p >= Board.PARAMETERS ? 0 : board.valueOf(p);
    }

    public int memory(int address) {
        return address < 0 || address >= Board.MEMORY_BYTES ? BAD : board.memory.at(address);
    }

    public int craft(int what) {
        switch (what) {
            case 0: return uplink.v;
            case 1: return uplink.lockout;
            case 2: return uplink.wait;
            case 3: return uplink.again;
            case 4: return uplink.b;
            case 5: return uplink.w;
            case 6: return board.requests.count;
            case 7: return maker.live.count;
            case 8: return maker.passed.count;
            case 9: return maker.lostOfLive;
            case 10: return uplink.hasBlocks ? 1 : 0;
            case 11: return uplink.data.size;
            case 12: return uplink.mended;
            case 13: return uplink.units;
            case 14: return maker.made;
            case 15: return uplink.bypassLost;
            default: return BAD;
        }
    }

    public int structure(int s, int what) {
        if (s < 0 || s >= Board.PLACES || what < 0) {
            return BAD;
        }
        int base = s * Board.STRUCTURE_ROW;
        if (what == 0) {
            return board.structures[base];
        }
        if (board.structures[base] == 0 || what > 4 + board.structures[base + 4]) {
            return BAD;
        }
        return board.structures[base + what];
    }

    public int watch(int m, int what) {
        if (m < 0 || m >= Board.PLACES || what < 0 || what > 6) {
            return BAD;
        }
        int base = m * Board.WATCH_ROW;
        return what > 0 && board.watches[base] == 0 ? BAD : board.watches[base + what];
    }

    public int event(int e, int what) {
        if (e < 0 || e >= Board.EVENTS) {
            return BAD;
        }
        int action = board.actions.find(e);
        switch (what) {
            case 0: return board.tellsEvent(e) ? 1 : 0;
            case 1: return action < 0 ? 0 : 1;
            case 2: return board.actions.markOf(action);
            case 3: return board.actions.sizeOf(action);
            default: return BAD;
        }
    }

    public int entry(int i, int what) {
        if (i == NONE) {
            return board.tellSchedule(what);
        }
        int n = board.nthEntry(i);
        if (n < 0) {
            return BAD;
        }
        switch (what) {
            case 0: return board.entries.tagOf(n);
            case 1: return board.entries.markOf(n);
            case 2: return board.entries.sizeOf(n);
            default: return BAD;
        }
    }

    public int store(int s, int what) {
        if (s < 0 || s >= Maker.STORES) {
            return BAD;
        }
        Store of = maker.stores[s];
        Shelf packets = of.packets;
        switch (what) {
            case 0: return of.kind;
            case 1: return of.on ? 1 : 0;
            case 2: return packets.count;
            case 3: return packets.used;
            case 4: return of.lost;
            case 5: return of.chosenCount;
            case 6: return packets.count == 0 ? NONE : packets.tagOf(0);
            case 7: return packets.count == 0 ? NONE : packets.tagOf(packets.count - 1);
            default: return BAD;
        }
    }

    /** A row of bytes with an end that moves; what is beyond it reads as 0. */
    private static final class Bytes {
        private static final int[] CHECK_OF_FOUR_BITS = {
            0x0000, 0x1021, 0x2042, 0x3063, 0x4084, 0x50A5, 0x60C6, 0x70E7,
            0x8108, 0x9129, 0xA14A, 0xB16B, 0xC18C, 0xD1AD, 0xE1CE, 0xF1EF};

        final byte[] row;
        int size;

        Bytes(int room) {
            row = new byte[Math.max(room, 0)];
        }

        void clear() {
            size = 0;
        }

        void put(int v) {
            if (size < row.length) {
                row[size] = (byte) v;
                size++;
            }
        }

        void putTwo(int v) {
            put(v >> 8);
            put(v);
        }

        void putFour(int v) {
            put(v >> 24);
            put(v >> 16);
            put(v >> 8);
            put(v);
        }

        void putSeven(long block) {
            for (int shift = 56; shift >= 8; shift -= 8) {
                put((int) (block >>> shift));
            }
        }

        void putMany(int v, int n) {
            for (int i = 0; i < n; i++) {
                put(v);
            }
        }

        void putRow(byte[] from, int start, int n) {
            if (start >= 0 && n >= 0 && start <= from.length - n && n <= row.length - size) {
                System.arraycopy(from, start, row, size, n);
                size += n;
            }
        }

        void putAll(Bytes from) {
            putRow(from.row, 0, from.size);
        }

        void putCheck() {
            putTwo(checkOf(0, size));
        }

        void set(int i, int v) {
            if (i >= 0 && i < size) {
                row[i] = (byte) v;
            }
        }

        void mix(byte[] noise) {
            int n = Math.min(size, noise.length);
            for (int i = 0; i < n; i++) {
                row[i] ^= noise[i];
            }
        }

        int at(int i) {
            return i >= 0 && i < size ? row[i] & 255 : 0;
        }

        int two(int i) {
            return (at(i) << 8) | at(i + 1);
        }

        int four(int i) {
            return (at(i) << 24) | (at(i + 1) << 16) | (at(i + 2) << 8) | at(i + 3);
        }

        int checkOf(int start, int end) {
            int c = 0xFFFF;
            for (int i = Math.max(start, 0); i < end && i < size; i++) {
                int v = row[i];
                c = ((c << 4) & 0xFFFF) ^ CHECK_OF_FOUR_BITS[((c >> 12) ^ (v >> 4)) & 15];
                c = ((c << 4) & 0xFFFF) ^ CHECK_OF_FOUR_BITS[((c >> 12) ^ v) & 15];
            }
            return c;
        }
    }

    /** BLOCKS, UNITS and NOISE BITS. */
    private static final class Blocks {
        static final int DATA_ROOM = 112;
        static final int UNIT_ROOM = 2 + DATA_ROOM / 7 * 8 + 8;
        /** The last bit of a block is never looked at, so it can stand for "no bit mends it". */
        static final long NOT_MENDED = 1L;
        private static final int DIVISOR = 0xC5;

        static byte[] noise() {
            byte[] row = new byte[Maker.FRAME_BYTES];
            int latest = 0xFF;
            for (int i = 0; i < row.length; i++) {
                row[i] = (byte) latest;
                for (int k = 0; k < 8; k++) {
                    int next = (latest ^ (latest >> 2) ^ (latest >> 4) ^ (latest >> 7)) & 1;
                    latest = ((latest << 1) | next) & 0xFF;
                }
            }
            return row;
        }

        /** The remainder of all bits of a block but the last one. */
        static int remainder(long block) {
            int r = 0;
            for (int i = 63; i >= 1; i--) {
                r = (r << 1) | ((int) (block >>> i) & 1);
                if ((r & 0x80) != 0) {
                    r ^= DIVISOR;
                }
            }
            return r;
        }

        /** The bit to be turned: 0 if none is wrong, NOT_MENDED if there is none that mends the block. */
        static long wrongBit(long block) {
            int r = remainder(block ^ 0xFEL);
            if (r == 0) {
                return 0L;
            }
            int power = 1;
            for (int i = 1; i <= 63; i++) {
                if (power == r) {
                    return 1L << i;
                }
                power <<= 1;
                if ((power & 0x80) != 0) {
                    power ^= DIVISOR;
                }
            }
            return NOT_MENDED;
        }

        static void wrap(Bytes data, Bytes unit) {
            unit.clear();
            unit.putTwo(0xEB90);
            for (int start = 0; start < data.size; start += 7) {
                long seven = 0;
                for (int k = 0; k < 7; k++) {
                    int i = start + k;
                    seven = (seven << 8) | (i < data.size ? data.at(i) : 0x55);
                }
                unit.putSeven(seven << 8);
                unit.put((~remainder(seven << 8) << 1) & 0xFE);
            }
            unit.putMany(0xC5, 7);
            unit.put(0x79);
        }
    }

    /** A row of bits, 32 to a word, the first the highest; bits beyond its count are 0. */
    private static final class Line {
        private final int room;
        private final int[] words;
        int count;

        Line(int room) {
            this.room = Math.max(room, 0);
            words = new int[this.room / 32 + 2];
        }

        int at(int i) {
            return i >= 0 && i < count ? (words[i >> 5] >>> (31 - (i & 31))) & 1 : 0;
        }

        void flip(int i) {
            if (i >= 0 && i < count) {
                words[i >> 5] ^= 1 << (31 - (i & 31));
            }
        }

        /** Whether there was room; if not, nothing is put. */
        boolean putAll(Bytes from) {
            if (count + 8 * from.size > room) {
                return false;
            }
            for (int i = 0; i < from.size; i++) {
                putByte(from.at(i));
            }
            return true;
        }

        private void putByte(int v) {
            int w = count >> 5;
            int offset = count & 31;
            if (w + 1 >= words.length) {
                return;
            }
            if (offset <= 24) {
                words[w] |= v << (24 - offset);
            } else {
                words[w] |= v >>> (offset - 24);
                words[w + 1] |= v << (56 - offset);
            }
            count += 8;
        }

        void dropFirst(int n) {
            if (n <= 0) {
                return;
            }
            if (n >= count) {
                dropLast(count);
                return;
            }
            int whole = n >> 5;
            int part = n & 31;
            int end = usedWords();
            for (int i = whole; i < end; i++) {
                int first = words[i] << part;
                int second = part == 0 ? 0 : words[i + 1] >>> (32 - part);
                words[i - whole] = first | second;
            }
            Arrays.fill(words, end - whole, end, 0);
            count -= n;
        }

        void dropLast(int n) {
            if (n <= 0) {
                return;
            }
            int end = usedWords();
            count -= Math.min(n, count);
            int w = count >> 5;
            words[w] &= ~(-1 >>> (count & 31));
            for (int i = w + 1; i < end; i++) {
                words[i] = 0;
            }
        }

        void dropOne(int i) {
            if (i < 0 || i >= count) {
                return;
            }
            int end = usedWords();
            int w = i >> 5;
            int moved = -1 >>> (i & 31);
            words[w] = (words[w] & ~moved) | ((words[w] << 1) & moved) | (words[w + 1] >>> 31);
            for (int k = w + 1; k < end; k++) {
                words[k] = (words[k] << 1) | (words[k + 1] >>> 31);
            }
            count--;
        }

        /** Below the number of words by at least one, as the row has one more than its room needs. */
        private int usedWords() {
            return Math.min((count + 31) >> 5, words.length - 1);
        }
    }

    /** Packets in the order in which they came, each with two numbers, in one row of bytes. */
    private static final class Shelf {
        private final byte[] row;
        private final int[] start;
        private final int[] size;
        private final int[] tag;
        private final int[] mark;
        int count;
        int used;

        Shelf(int places, int bytes) {
            int n = Math.max(places, 0);
            row = new byte[Math.max(bytes, 0)];
            start = new int[n];
            size = new int[n];
            tag = new int[n];
            mark = new int[n];
        }

        private boolean has(int i) {
            return i >= 0 && i < count;
        }

        boolean hasPlace() {
            return count < start.length;
        }

        boolean hasRoom(int bytes) {
            return count < start.length && bytes <= row.length - used;
        }

        /** Bytes begin .. begin + n - 1 of a row become the last packet; whether there was room. */
        boolean add(Bytes from, int begin, int n, int itsTag, int itsMark) {
            if (n < 0 || begin < 0 || begin > from.size - n || !hasRoom(n)) {
                return false;
            }
            System.arraycopy(from.row, begin, row, used, n);
            start[count] = used;
            size[count] = n;
            tag[count] = itsTag;
            mark[count] = itsMark;
            count++;
            used += n;
            return true;
        }

        void remove(int i) {
            if (!has(i)) {
                return;
            }
            int n = size[i];
            int next = start[i] + n;
            System.arraycopy(row, next, row, start[i], used - next);
            used -= n;
            count--;
            for (int k = i; k < count; k++) {
                start[k] = start[k + 1] - n;
                size[k] = size[k + 1];
                tag[k] = tag[k + 1];
                mark[k] = mark[k + 1];
            }
        }

        void clear() {
            count = 0;
            used = 0;
        }

        void copyOut(int i, Bytes to) {
            to.clear();
            if (has(i)) {
                to.putRow(row, start[i], size[i]);
            }
        }

        /** The first packet with a tag, or -1. */
        int find(int itsTag) {
            for (int i = 0; i < count; i++) {
                if (tag[i] == itsTag) {
                    return i;
                }
            }
            return -1;
        }

        int sizeOf(int i) {
            return has(i) ? size[i] : 0;
        }

        int tagOf(int i) {
            return has(i) ? tag[i] : 0;
        }

        int markOf(int i) {
            return has(i) ? mark[i] : 0;
        }

        void setTag(int i, int v) {
            if (has(i)) {
                tag[i] = v;
            }
        }

        void setMark(int i, int v) {
            if (has(i)) {
                mark[i] = v;
            }
        }

        int byteOf(int i, int k) {
            return i >= 0 && i < count && k >= 0 && k < size[i] ? row[start[i] + k] & 255 : 0;
        }

        int twoOf(int i, int k) {
            return (byteOf(i, k) << 8) | byteOf(i, k + 1);
        }
    }

    /** The craft's ear for units, and the craft's machine. */
    private static final class Uplink {
        private static final int FRAME_REST = 7;
        private static final int BYPASS_BIT = 0x20;
        private static final int CONTROL_BIT = 0x10;

        final Bytes data = new Bytes(Blocks.DATA_ROOM);
        boolean hasBlocks;
        private int latest;
        private int latestCount;
        private long block;
        private int blockBits;
        int mended;
        int units;
        int taken;
        int bad;
        int bypassLost;
        int v;
        int lockout;
        int wait;
        int again;
        int b;
        int w = 16;

        /** Whether the bit ended a unit, so that its data is to be dealt with. */
        boolean take(int bit) {
            if (!hasBlocks) {
                search(bit);
                return false;
            }
            block = (block << 1) | bit;
            blockBits++;
            if (blockBits < 64) {
                return false;
            }
            blockBits = 0;
            return !keepBlock();
        }

        private void search(int bit) {
            latest = ((latest << 1) | bit) & 0xFFFF;
            if (latestCount < 16) {
                latestCount++;
            }
            if (latestCount == 16 && Integer.bitCount(latest ^ 0xEB90) <= 1) {
                hasBlocks = true;
                blockBits = 0;
                units++;
            }
        }

        private boolean keepBlock() {
            if (data.size >= Blocks.DATA_ROOM) {
                return false;
            }
            long wrong = Blocks.wrongBit(block);
            if (wrong == Blocks.NOT_MENDED) {
                return false;
            }
            if (wrong != 0L) {
                mended++;
            }
            data.putSeven(block ^ wrong);
            return true;
        }

        void endUnit() {
            hasBlocks = false;
            latest = 0;
            latestCount = 0;
            data.clear();
        }

        /** How many bytes the frame at a place of the data has, 0 if none is there. */
        int frameBytes(int place) {
            int left = data.size - place;
            if (left < FRAME_REST || (data.at(place) & 0xC0) != 0) {
                return 0;
            }
            int n = (data.two(place + 2) & 0x3FF) + 1;
            if (n > left) {
                bad++;
                return 0;
            }
            return n;
        }

        /** Whether its content is taken. */
        boolean dealFrame(int place, int n, boolean room) {
            int head = data.at(place);
            if (!isSound(place, n)) {
                bad++;
                return false;
            }
            if ((head & CONTROL_BIT) != 0) {
                obey(place, n);
                return false;
            }
            boolean goes = (head & BYPASS_BIT) != 0 ? takesBypass(room) : takesNumber(data.at(place + 4), room);
            if (goes) {
                taken++;
            }
            return goes;
        }

        private boolean isSound(int place, int n) {
            if (n < FRAME_REST + 1 || (data.two(place) & 0xCFFF) != 0x00AB || (data.two(place + 2) & 0xFC00) != 0) {
                return false;
            }
            int end = place + n - 2;
            if (data.checkOf(place, end) != data.two(end)) {
                return false;
            }
            if ((data.at(place) & CONTROL_BIT) == 0) {
                return n - FRAME_REST <= 60;
            }
            return (data.at(place) & BYPASS_BIT) != 0 && (isUnlock(place, n) || isSet(place, n));
        }

        private boolean isUnlock(int place, int n) {
            return n == FRAME_REST + 1 && data.at(place + 5) == 0;
        }

        private boolean isSet(int place, int n) {
            return n == FRAME_REST + 3 && data.two(place + 5) == 0x8200;
        }

        private void obey(int place, int n) {
            b = (b + 1) & 3;
            if (isUnlock(place, n)) {
                lockout = 0;
            } else if (lockout == 0) {
                v = data.at(place + 7);
            } else {
                return;
            }
            wait = 0;
            again = 0;
        }

        private boolean takesBypass(boolean room) {
            b = (b + 1) & 3;
            if (!room) {
                bypassLost++;
            }
            return room;
        }

        private boolean takesNumber(int n, boolean room) {
            if (lockout != 0) {
                return false;
            }
            int d = (n - v) & 255;
            if (d == 0) {
                return takesDue(room);
            }
            if (d < w / 2) {
                again = 1;
            } else if (d < 256 - w / 2) {
                lockout = 1;
            }
            return false;
        }

        private boolean takesDue(boolean room) {
            if (wait != 0) {
                return false;
            }
            if (room) {
                v = (v + 1) & 255;
                again = 0;
            } else {
                wait = 1;
                again = 1;
            }
            return room;
        }

        void copyContent(int place, int n, Bytes to) {
            to.clear();
            to.putRow(data.row, place + 5, n - FRAME_REST);
        }

        int reportBits() {
            return (lockout << 5) | (wait << 4) | (again << 3) | (b << 1);
        }
    }

    /** The ground's machine. */
    private static final class Sender {
        private static final int ACTIVE = 1;
        private static final int AGAIN = 2;
        private static final int WAITING = 3;
        private static final int BEGINNING = 4;
        private static final int CONTROL = 5;
        private static final int OFF = 6;
        private static final int BYPASS_FLAG = 0x2000;
        private static final int CONTROL_FLAG = 0x1000;
        private static final int MOST = 32;
        private static final int QUIET = 0;
        private static final int GO = -1;

        private final Line up;
        private final Ground ground;
        private final Shelf sent = new Shelf(MOST, MOST * 60);
        private final Shelf waiting = new Shelf(MOST, MOST * 60);
        private final Bytes control = new Bytes(3);
        private final Bytes content = new Bytes(60);
        private final Bytes frame = new Bytes(67);
        private final Bytes unit = new Bytes(Blocks.UNIT_ROOM);
        private int state = OFF;
        private int s;
        private int a;
        private int count = 1;
        private int limit = 3;
        private int k = 8;
        private int timer;
        private int time = 20;
        private int kind;
        private int hold;
        private int alarm;

        Sender(Line up, Ground ground) {
            this.up = up;
            this.ground = ground;
        }

        boolean takesRequests() {
            return state <= WAITING;
        }

        boolean hasRoom() {
            return waiting.hasPlace();
        }

        void putWaiting(Bytes packet, int number) {
            waiting.add(packet, 0, packet.size, number, 0);
        }

        void sendBypass(Bytes packet) {
            transmit(BYPASS_FLAG, 0, packet);
        }

        private void sendControl() {
            transmit(BYPASS_FLAG | CONTROL_FLAG, 0, control);
        }

        private void transmit(int flags, int n, Bytes inside) {
            frame.clear();
            frame.putTwo(flags | 0x0AB);
            frame.putTwo(inside.size + 6);
            frame.put(n);
            frame.putAll(inside);
            frame.putCheck();
            Blocks.wrap(frame, unit);
            up.putAll(unit);
        }

        void go() {
            for (int i = 0; i < 2 * MOST && (state == ACTIVE || state == AGAIN); i++) {
                int next = firstMarked();
                if (next < 0) {
                    next = launch();
                }
                if (next < 0) {
                    return;
                }
                sent.setMark(next, 0);
                sent.copyOut(next, content);
                transmit(0, (a + next) & 255, content);
            }
        }

        private int firstMarked() {
            for (int i = 0; i < sent.count; i++) {
                if (sent.markOf(i) != 0) {
                    return i;
                }
            }
            return -1;
        }

        /** The first waiting request becomes the last of SENT: its place there, or -1. */
        private int launch() {
            if (waiting.count == 0 || sent.count >= k) {
                return -1;
            }
            int number = waiting.tagOf(0);
            waiting.copyOut(0, content);
            if (sent.count == 0) {
                count = 1;
            }
            if (!sent.add(content, 0, content.size, number, 0)) {
                return -1;
            }
            waiting.remove(0);
            s = (s + 1) & 255;
            ground.setStatus(number, Ground.SENT);
            timer = time;
            return sent.count - 1;
        }

        private void repeat() {
            count++;
            timer = time;
            for (int i = 0; i < sent.count; i++) {
                sent.setMark(i, 1);
            }
        }

        private void clearTo(int x) {
            int n = (x - a) & 255;
            for (int i = 0; i < n && sent.count > 0; i++) {
                ground.changeStatus(sent.tagOf(0), Ground.SENT, Ground.ACKNOWLEDGED);
                sent.remove(0);
            }
            a = x;
            count = 1;
            if (sent.count == 0) {
                timer = 0;
            }
        }

        private void loseAll() {
            for (int i = 0; i < sent.count; i++) {
                ground.changeStatus(sent.tagOf(i), Ground.SENT, Ground.LOST);
            }
            for (int i = 0; i < waiting.count; i++) {
                ground.changeStatus(waiting.tagOf(i), Ground.WAITING, Ground.LOST);
            }
            sent.clear();
            waiting.clear();
            a = s;
            hold = 0;
        }

        private void raiseAlarm(int n) {
            alarm = n;
            loseAll();
            timer = 0;
            state = OFF;
        }

        private void holdOn() {
            hold = state;
            state = OFF;
        }

        /** A report with LOCKOUT, WAIT, AGAIN as 16, 8, 4 and V; whether GO follows. */
        boolean hear(int flags, int x) {
            if (state == OFF) {
                return false;
            }
            int verdict = judge((flags & 16) != 0, (flags & 8) != 0, (flags & 4) != 0, x);
            if (verdict > 0) {
                raiseAlarm(verdict);
            }
            return verdict == GO;
        }

        /** The number of an alarm, or QUIET, or GO. */
        private int judge(boolean locks, boolean waits, boolean asksAgain, int x) {
            if (locks) {
                return state == CONTROL ? QUIET : 1;
            }
            if (((x - a) & 255) > ((s - a) & 255)) {
                return 2;
            }
            if (x == s) {
                return judgeAll(waits, asksAgain);
            }
            return asksAgain ? judgeAgain(x, waits) : judgeSome(x, waits);
        }

        private int judgeAll(boolean waits, boolean asksAgain) {
            if (asksAgain || waits) {
                return state == CONTROL ? QUIET : asksAgain ? 3 : 4;
            }
            if (s != a) {
                clearTo(s);
                state = ACTIVE;
                return GO;
            }
            if (state == ACTIVE) {
                return QUIET;
            }
            if (state == AGAIN || state == WAITING) {
                return 3;
            }
            state = ACTIVE;
            timer = 0;
            return GO;
        }

        private int judgeSome(int x, boolean waits) {
            if (waits) {
                return 4;
            }
            if (x == a) {
                return state == ACTIVE ? QUIET : 3;
            }
            clearTo(x);
            state = ACTIVE;
            return GO;
        }

        private int judgeAgain(int x, boolean waits) {
            boolean news = x != a;
            if (news) {
                clearTo(x);
            }
            if (limit == 1) {
                return 5;
            }
            if (waits) {
                state = WAITING;
                return QUIET;
            }
            if (!news && count >= limit) {
                state = AGAIN;
                return QUIET;
            }
            if (!news && state == AGAIN) {
                return QUIET;
            }
            repeat();
            state = AGAIN;
            return GO;
        }

        /** A tick passes; whether the timer ends with it. */
        boolean timerEnds() {
            if (timer == 0) {
                return false;
            }
            timer--;
            return timer == 0;
        }

        /** What the end of the timer brings; whether GO follows. */
        boolean timeIsOut() {
            if (count >= limit) {
                alarmOrHold();
                return false;
            }
            switch (state) {
                case ACTIVE: case AGAIN:
                    repeat();
                    return true;
                case BEGINNING:
                    alarmOrHold();
                    return false;
                case CONTROL:
                    sendControl();
                    count++;
                    timer = time;
                    return false;
                default:
                    return false;
            }
        }

        private void alarmOrHold() {
            if (kind == 0 || state == CONTROL) {
                raiseAlarm(6);
            } else {
                holdOn();
            }
        }

        boolean stateFits(int directive) {
            switch (directive) {
                case 4: return true;
                case 5: return state == OFF && hold != 0;
                case 6: return state == OFF && hold == 0;
                default: return state == OFF;
            }
        }

        /** Directives 0 to 6; whether GO follows. */
        boolean obey(int directive, int v) {
            switch (directive) {
                case 4:
                    raiseAlarm(7);
                    return false;
                case 5:
                    state = hold;
                    hold = 0;
                    timer = time;
                    return true;
                case 6:
                    s = v;
                    a = v;
                    return false;
                default:
                    begin(directive, v);
                    return false;
            }
        }

        private void begin(int directive, int v) {
            loseAll();
            count = 1;
            if (directive == 0) {
                state = ACTIVE;
                return;
            }
            timer = time;
            if (directive == 1) {
                state = BEGINNING;
                return;
            }
            state = CONTROL;
            control.clear();
            if (directive == 2) {
                control.put(0);
            } else {
                control.putTwo(0x8200);
                control.put(v);
                s = v;
                a = v;
            }
            sendControl();
        }

        void setNumber(int directive, int v) {
            switch (directive) {
                case 7: k = v; break;
                case 8: time = v; break;
                case 9: limit = v; break;
                case 10: kind = v; break;
                default: break;
            }
        }

        int tell(int what) {
            switch (what) {
                case 0: return state;
                case 1: return s;
                case 2: return a;
                case 3: return count;
                case 4: return timer;
                case 5: return hold;
                case 6: return alarm;
                case 7: return sent.count;
                case 8: return waiting.count;
                case 9: return markedCount();
                case 10: return limit;
                case 11: return k;
                case 12: return time;
                case 13: return kind;
                default: return BAD;
            }
        }

        private int markedCount() {
            int n = 0;
            for (int i = 0; i < sent.count; i++) {
                n += sent.markOf(i);
            }
            return n;
        }
    }

    /** Finds frames in the bits that come down, and puts packets together of them. */
    private static final class GroundEar {
        private static final int MARK = 0x1ACFFC1D;
        private static final int MOST_PACKET = 200;
        private static final int CONTENT_PLACE = 6;
        private static final int REPORT_PLACE = 58;

        private final Ground ground;
        private final byte[] noise;
        private final Bytes frame = new Bytes(Maker.FRAME_BYTES);
        private final Bytes liveBegun = new Bytes(MOST_PACKET);
        private final Bytes storedBegun = new Bytes(MOST_PACKET);
        private final int[] latestOwn = {-1, -1};
        private int e;
        private int f;
        private boolean inFrame;
        private int latest;
        private int latestCount;
        boolean locked;
        int misses;
        int frames;
        int bad;
        int gaps;
        int reports;
        int v;
        int flags;

        GroundEar(Ground ground, byte[] noise) {
            this.ground = ground;
            this.noise = noise;
        }

        int changeE(int to) {
            int was = e;
            e = to;
            return was;
        }

        int changeF(int to) {
            int was = f;
            f = to;
            return was;
        }

        /** Whether the bit ended a frame. */
        boolean take(int bit) {
            latest = (latest << 1) | bit;
            latestCount++;
            if (inFrame) {
                return takeInFrame();
            }
            if (latestCount >= 32) {
                latestCount = 32;
                lookForMark();
            }
            return false;
        }

        private boolean takeInFrame() {
            if (latestCount < 8) {
                return false;
            }
            frame.put(latest);
            latestCount = 0;
            if (frame.size < Maker.FRAME_BYTES) {
                return false;
            }
            inFrame = false;
            return true;
        }

        private void lookForMark() {
            boolean found = Integer.bitCount(latest ^ MARK) <= e;
            if (found) {
                locked = true;
                misses = 0;
                beginFrame();
            } else if (locked) {
                miss();
            }
        }

        private void miss() {
            misses++;
            if (misses > f) {
                locked = false;
                misses = 0;
            } else {
                beginFrame();
            }
        }

        private void beginFrame() {
            inFrame = true;
            latestCount = 0;
            frame.clear();
        }

        boolean frameIsSound() {
            frames++;
            frame.mix(noise);
            boolean sound = (frame.two(0) & 0xFFF1) == 0x0AB1
                && (frame.at(4) & 0xF8) == 0x18
                && frame.checkOf(0, Maker.FRAME_BYTES - 2) == frame.two(Maker.FRAME_BYTES - 2);
            if (!sound) {
                bad++;
            }
            return sound;
        }

        boolean findReport() {
            int bits = frame.at(REPORT_PLACE + 2);
            if (frame.two(REPORT_PLACE) != 0x0100 || (bits & 0xC1) != 0) {
                return false;
            }
            reports++;
            flags = bits >> 1;
            v = frame.at(REPORT_PLACE + 3);
            return true;
        }

        void joinPackets() {
            int channel = (frame.at(1) >> 1) & 7;
            if (channel > 1) {
                return;
            }
            Bytes begun = channel == 0 ? liveBegun : storedBegun;
            followOwn(channel, begun);
            int place = begun.size > 0 ? 0 : frame.two(4) & 0x7FF;
            for (int i = place; i < Maker.CONTENT_BYTES; i++) {
                begun.put(frame.at(CONTENT_PLACE + i));
                if (begun.size >= 6) {
                    int n = begun.two(4) + 7;
                    if (n > MOST_PACKET) {
                        begun.clear();
                        return;
                    }
                    if (begun.size == n) {
                        ground.takePacket(begun, channel);
                        begun.clear();
                    }
                }
            }
        }

        private void followOwn(int channel, Bytes begun) {
            int own = frame.at(3);
            int before = latestOwn[channel & 1];
            if (before >= 0 && own != ((before + 1) & 255)) {
                gaps++;
                begun.clear();
            }
            latestOwn[channel & 1] = own;
        }
    }

    /** What the ground keeps: its requests, what was archived, what is shown. */
    private static final class Ground {
        static final int BUILT = 0;
        static final int WAITING = 1;
        static final int SENT = 2;
        static final int ACKNOWLEDGED = 3;
        static final int LOST = 4;
        static final int COUNT_MASK = 0x3FFF;
        /** What a packet up has beside its data. */
        static final int PACKET_REST = 13;
        private static final int KEPT = 64;
        private static final int ARCHIVE_PLACES = 40;
        private static final int ARCHIVE_MOST = 120;
        private static final int DATA_PLACE = 13;
        /** Of the report 1, x: what becomes of a request; -1 if there is no such report. */
        private static final int[] TOLD = {-1, 5, 6, 7, 8, -1, -1, 9, 10};

        final Bytes packet = new Bytes(100);
        final Shelf archive = new Shelf(ARCHIVE_PLACES, ARCHIVE_PLACES * ARCHIVE_MOST);
        final int[] shownThere = new int[Board.PARAMETERS];
        final int[] shownValue = new int[Board.PARAMETERS];
        final int[] shownTick = new int[Board.PARAMETERS];
        private final int[] status = new int[KEPT];
        private final int[] reason = new int[KEPT];
        private final int[] kind = new int[KEPT];
        int total;
        int archivedInAll;
        int badPackets;
        int missing;
        private int latestCount = -1;

        boolean hasRequest(int number) {
            return number >= 0 && number < total && number >= total - KEPT;
        }

        int statusOf(int number) {
            return status[number & (KEPT - 1)];
        }

        int reasonOf(int number) {
            return reason[number & (KEPT - 1)];
        }

        int kindOf(int number) {
            return kind[number & (KEPT - 1)];
        }

        void setStatus(int number, int to) {
            if (hasRequest(number)) {
                status[number & (KEPT - 1)] = to;
            }
        }

        void changeStatus(int number, int from, int to) {
            if (hasRequest(number) && status[number & (KEPT - 1)] == from) {
                status[number & (KEPT - 1)] = to;
            }
        }

        /** Its packet is in "packet" then; its number. */
        int newRequest(int service, int subtype, int acks, Bytes data, int itsStatus) {
            int number = total;
            total++;
            int i = number & (KEPT - 1);
            status[i] = itsStatus;
            reason[i] = 0;
            kind[i] = (service << 8) | subtype;
            packet.clear();
            packet.putTwo(0x180C);
            packet.putTwo(0xC000 | (number & COUNT_MASK));
            packet.putTwo(data.size + PACKET_REST - 7);
            packet.put(0x20 | acks);
            packet.put(service);
            packet.put(subtype);
            packet.putTwo(0);
            packet.putAll(data);
            packet.putCheck();
            return number;
        }

        /** The place in the archive of the i-th, the newest 0; -1 if there is none. */
        int placeOf(int i) {
            return i >= 0 && i < archive.count ? archive.count - 1 - i : -1;
        }

        void takePacket(Bytes came, int channel) {
            if (came.two(0) == 0x07FF) {
                return;
            }
            if (!isSound(came)) {
                badPackets++;
                return;
            }
            archivedInAll++;
            if (!archive.hasPlace()) {
                archive.remove(0);
            }
            archive.add(came, 0, came.size, channel, 0);
            if (channel == 0) {
                followCount(came.two(2) & COUNT_MASK);
            }
            showAll(came);
        }

        private boolean isSound(Bytes came) {
            return came.size >= 15 && came.size <= ARCHIVE_MOST
                && came.two(0) == 0x080C && (came.at(2) & 0xC0) == 0xC0 && came.at(6) == 0x20
                && came.checkOf(0, came.size - 2) == came.two(came.size - 2);
        }

        private void followCount(int count) {
            if (latestCount >= 0) {
                missing += (count - latestCount - 1) & COUNT_MASK;
            }
            latestCount = count;
        }

        private void showAll(Bytes came) {
            int which = came.two(7);
            if (which == 0x1402) {
                showValues(came, DATA_PLACE);
            } else if (which == 0x0319) {
                showValues(came, DATA_PLACE + 1);
            } else if (came.at(7) == 1) {
                learn(came);
            }
        }

        /** A place where n stands, and n of (p, value) behind it. */
        private void showValues(Bytes came, int place) {
            int end = came.size - 2;
            int n = place < end ? came.at(place) : 0;
            int tick = came.four(9);
            for (int i = 0; i < n; i++) {
                int at = place + 1 + 5 * i;
                if (at + 5 > end) {
                    return;
                }
                showValue(came.at(at), came.four(at + 1), tick);
            }
        }

        private void showValue(int p, int value, int tick) {
            if (p >= Board.PARAMETERS || (shownThere[p] != 0 && tick < shownTick[p])) {
                return;
            }
            shownThere[p] = 1;
            shownValue[p] = value;
            shownTick[p] = tick;
        }

        private void learn(Bytes came) {
            int subtype = came.at(8);
            int told = subtype < TOLD.length ? TOLD[subtype] : -1;
            // those with an even result, and 10, bear a code behind the count
            boolean coded = told >= 0 && (told & 1) == 0;
            if (told < 0 || came.size - 2 - DATA_PLACE < (coded ? 3 : 2)) {
                return;
            }
            int last = total - 1;
            int number = last - ((last - came.two(DATA_PLACE)) & COUNT_MASK);
            if (hasRequest(number)) {
                status[number & (KEPT - 1)] = told;
                reason[number & (KEPT - 1)] = coded ? came.at(DATA_PLACE + 2) : 0;
            }
        }
    }

    /** Packets on board that are chosen for keeping. */
    private static final class Store {
        static final int BOUNDED = 0;
        private static final int BYTES = 1200;
        private static final int LEAST_PACKET = 15;
        private static final int MOST_CHOSEN = 6;

        final Shelf packets = new Shelf(BYTES / LEAST_PACKET, BYTES);
        private final int[] chosen = new int[MOST_CHOSEN];
        int chosenCount;
        int kind;
        boolean on;
        int lost;

        void reset(int itsKind) {
            packets.clear();
            kind = itsKind;
            on = false;
            chosenCount = 0;
            lost = 0;
        }

        private boolean isChosen(int which) {
            for (int i = 0; i < chosenCount; i++) {
                if (chosen[i] == which) {
                    return true;
                }
            }
            return false;
        }

        boolean mayChoose(int which) {
            return chosenCount < MOST_CHOSEN || isChosen(which);
        }

        void choose(int which) {
            if (chosenCount < MOST_CHOSEN && !isChosen(which)) {
                chosen[chosenCount] = which;
                chosenCount++;
            }
        }

        void offer(Bytes packet, int which, int tick) {
            if (!on || !isChosen(which)) {
                return;
            }
            if (kind != BOUNDED) {
                for (int i = packets.count; i > 0 && !packets.hasRoom(packet.size); i--) {
                    packets.remove(0);
                }
            }
            if (!packets.add(packet, 0, packet.size, tick, 0)) {
                lost++;
            }
        }

        void dropUpTo(int tick) {
            for (int i = packets.count - 1; i >= 0; i--) {
                if (packets.tagOf(i) <= tick) {
                    packets.remove(i);
                }
            }
        }
    }

    /** Makes the craft's packets, keeps them till they are sent, and sends frames down. */
    private static final class Maker {
        static final int STORES = 2;
        static final int FRAME_BYTES = 64;
        static final int CONTENT_BYTES = 52;
        private static final int MARK = 0x1ACFFC1D;
        private static final int LIVE_PLACES = 24;
        private static final int MOST_PACKET = 82;
        private static final int LIVE = 0;
        private static final int STORED = 1;
        private static final int IDLE = 7;
        private static final int LEAST_IDLE = 7;
        private static final int NO_FIRST = 0x7FF;
        private static final int IDLE_FIRST = 0x7FE;

        private final Line down;
        private final byte[] noise;
        final Store[] stores = {new Store(), new Store()};
        final Shelf live = new Shelf(LIVE_PLACES, LIVE_PLACES * MOST_PACKET);
        final Shelf passed = new Shelf(40, 1200);
        final Bytes packet = new Bytes(MOST_PACKET);
        private final Bytes[] begun = {new Bytes(MOST_PACKET), new Bytes(MOST_PACKET)};
        private final int[] begunSent = new int[2];
        private final int[] begunIdle = new int[2];
        private final int[] own = new int[8];
        private final Bytes frame = new Bytes(FRAME_BYTES);
        private final Bytes marked = new Bytes(FRAME_BYTES + 4);
        int tick;
        int made;
        int lostOfLive;
        private int all;
        private int first;
        private boolean storedBefore;

        Maker(Line down, byte[] noise) {
            this.down = down;
            this.noise = noise;
        }

        /** Its data is put behind "packet" then, and finish() follows, which leaves "packet" empty. */
        void begin(int service, int subtype) {
            packet.clear();
            packet.putTwo(0x080C);
            packet.putTwo(0xC000 | (made & Ground.COUNT_MASK));
            packet.putTwo(0);
            packet.put(0x20);
            packet.put(service);
            packet.put(subtype);
            packet.putFour(tick);
        }

        boolean hasBegun() {
            return packet.size > 0;
        }

        void finish() {
            int rest = packet.size + 2 - 7;
            packet.set(4, rest >> 8);
            packet.set(5, rest);
            packet.putCheck();
            made++;
            int which = packet.two(7);
            for (int i = 0; i < stores.length; i++) {
                stores[i].offer(packet, which, tick);
            }
            if (!live.add(packet, 0, packet.size, 0, 0)) {
                lostOfLive++;
            }
            packet.clear();
        }

        void pass(Store from, int low, int high) {
            for (int i = 0; i < from.packets.count; i++) {
                int when = from.packets.tagOf(i);
                if (when >= low && when <= high) {
                    from.packets.copyOut(i, packet);
                    passed.add(packet, 0, packet.size, 0, 0);
                }
            }
            packet.clear();
        }

        void sendFrame(int reportBits, int v) {
            int channel = nextChannel();
            storedBefore = channel == STORED;
            frame.clear();
            frame.putTwo(0x0AB1 | (channel << 1));
            frame.put(all);
            frame.put(own[channel & 7]);
            frame.putTwo(0);
            if (channel == IDLE) {
                frame.putMany(0x55, CONTENT_BYTES);
                first = IDLE_FIRST;
            } else {
                first = NO_FIRST;
                fill(channel);
            }
            frame.set(4, 0x18 | (first >> 8));
            frame.set(5, first);
            frame.putTwo(0x0100);
            frame.put(reportBits);
            frame.put(v);
            frame.putCheck();
            all = (all + 1) & 255;
            own[channel & 7] = (own[channel & 7] + 1) & 255;
            frame.mix(noise);
            marked.clear();
            marked.putFour(MARK);
            marked.putAll(frame);
            down.putAll(marked);
        }

        private int nextChannel() {
            boolean liveWants = wants(LIVE, live);
            if (wants(STORED, passed) && (!storedBefore || !liveWants)) {
                return STORED;
            }
            return liveWants ? LIVE : IDLE;
        }

        private boolean wants(int channel, Shelf next) {
            return next.count > 0 || (begunIdle[channel & 1] == 0 && begunLeft(channel) > 0);
        }

        private int begunLeft(int channel) {
            return begun[channel & 1].size - begunSent[channel & 1];
        }

        private void fill(int channel) {
            int c = channel & 1;
            Shelf next = channel == STORED ? passed : live;
            int room = CONTENT_BYTES;
            for (int i = 0; i < CONTENT_BYTES && room > 0; i++) {
                if (begunLeft(c) == 0) {
                    if (first == NO_FIRST) {
                        first = CONTENT_BYTES - room;
                    }
                    beginNext(c, next, room);
                }
                int n = Math.min(begunLeft(c), room);
                frame.putRow(begun[c].row, begunSent[c], n);
                begunSent[c] += n;
                room -= n;
            }
        }

        private void beginNext(int c, Shelf next, int room) {
            begunSent[c & 1] = 0;
            if (next.count > 0) {
                next.copyOut(0, begun[c & 1]);
                next.remove(0);
                begunIdle[c & 1] = 0;
            } else {
                putIdle(begun[c & 1], Math.max(room, LEAST_IDLE));
                begunIdle[c & 1] = 1;
            }
        }

        private void putIdle(Bytes to, int n) {
            to.clear();
            to.putTwo(0x07FF);
            to.putTwo(0xC000);
            to.putTwo(n - 7);
            to.putMany(0, n - 6);
        }
    }

    /** Requests on board: looked at, kept, done; and what goes on with each tick. */
    private static final class Board {
        static final int PARAMETERS = 24;
        static final int LAST_OPEN = 15;
        static final int MEMORY_BYTES = 1024;
        static final int PLACES = 6;
        static final int EVENTS = 32;
        static final int STRUCTURE_ROW = 13;
        static final int WATCH_ROW = 8;
        private static final int GROUPS = 4;
        private static final int PROTECTED = 768;
        private static final int REQUEST_PLACES = 8;
        private static final int REQUESTS_A_TICK = 4;
        private static final int ENTRY_PLACES = 16;
        private static final int DEEPEST = 4;
        private static final int LEAST_PACKET = 13;
        private static final int MOST_GIVEN = 40;
        private static final int DATA_PLACE = 11;
        private static final int REFUSED = 18;
        private static final int FAILED = 19;
        private static final int DONE = 20;
        private static final int HAPPENED = 22;

        private static final int THERE = 0;
        private static final int ON = 1;
        private static final int INTERVAL = 2;
        private static final int WAIT = 3;
        private static final int HOW_MANY = 4;
        private static final int FIRST_P = 5;

        private static final int STATE = 0;
        private static final int WATCHED = 1;
        private static final int LOW = 2;
        private static final int HIGH = 3;
        private static final int TIMES = 4;
        private static final int ITS_EVENT = 5;
        private static final int ROW = 6;
        private static final int LATEST_LOOK = 7;
        private static final int IS_OFF = 1;
        private static final int IS_UNCHECKED = 2;
        private static final int IS_IN = 3;
        private static final int IS_LOW = 4;
        private static final int IS_HIGH = 5;

        private static final int NO_N = -1;
        private static final int PACKET = -2;
        private static final int SHAPE_ROW = 6;
        /** A row each: service, subtype, bytes of data, the place of n in it (or NO_N; PACKET: one follows),
            the greatest n, bytes that each of the n has. */
        private static final int[] SHAPES = {
            3, 1, 4, 3, 8, 1,
            3, 3, 1, NO_N, 0, 0,
            3, 5, 1, NO_N, 0, 0,
            3, 6, 1, NO_N, 0, 0,
            3, 27, 1, NO_N, 0, 0,
            5, 5, 1, NO_N, 0, 0,
            5, 6, 1, NO_N, 0, 0,
            6, 2, 3, 2, 32, 1,
            6, 5, 3, 2, 64, 0,
            6, 9, 4, NO_N, 0, 0,
            8, 1, 5, NO_N, 0, 0,
            11, 1, 0, NO_N, 0, 0,
            11, 2, 0, NO_N, 0, 0,
            11, 3, 0, NO_N, 0, 0,
            11, 4, 5, PACKET, 0, 0,
            11, 5, 2, NO_N, 0, 0,
            11, 15, 4, NO_N, 0, 0,
            11, 16, 0, NO_N, 0, 0,
            11, 20, 1, NO_N, 0, 0,
            11, 21, 1, NO_N, 0, 0,
            12, 1, 1, NO_N, 0, 0,
            12, 2, 1, NO_N, 0, 0,
            12, 5, 12, NO_N, 0, 0,
            12, 6, 1, NO_N, 0, 0,
            12, 13, 0, NO_N, 0, 0,
            15, 1, 1, NO_N, 0, 0,
            15, 2, 1, NO_N, 0, 0,
            15, 3, 3, NO_N, 0, 0,
            15, 9, 9, NO_N, 0, 0,
            15, 11, 5, NO_N, 0, 0,
            15, 12, 2, NO_N, 0, 0,
            17, 1, 0, NO_N, 0, 0,
            19, 1, 2, PACKET, 0, 0,
            19, 2, 1, NO_N, 0, 0,
            19, 4, 1, NO_N, 0, 0,
            19, 5, 1, NO_N, 0, 0,
            20, 1, 1, 0, 8, 1,
            20, 3, 1, 0, 6, 5};

        private final Maker maker;
        private final Uplink uplink;
        final Shelf requests = new Shelf(REQUEST_PLACES, REQUEST_PLACES * 60);
        final Shelf entries = new Shelf(ENTRY_PLACES, ENTRY_PLACES * MOST_GIVEN);
        final Shelf actions = new Shelf(EVENTS, EVENTS * MOST_GIVEN);
        /** The packet that is looked at next. */
        final Bytes given = new Bytes(60);
        private final Bytes current = new Bytes(60);
        final int[] parameters = new int[PARAMETERS];
        final int[] structures = new int[PLACES * STRUCTURE_ROW];
        final int[] watches = new int[PLACES * WATCH_ROW];
        final Bytes memory = new Bytes(MEMORY_BYTES);
        private int eventsOff;
        private int groupsOff;
        private boolean scheduleOn;

        Board(Maker maker, Uplink uplink) {
            this.maker = maker;
            this.uplink = uplink;
            memory.putMany(0, MEMORY_BYTES);
        }

        // ---- what others ask

        boolean hasRoom() {
            return requests.hasPlace();
        }

        int valueOf(int p) {
            switch (p) {
                case 16: return uplink.taken;
                case 17: return uplink.bad;
                case 21: return entries.count;
                case 23: return maker.tick;
                default: return p >= 0 && p < PARAMETERS ? parameters[p] : 0;
            }
        }

        boolean tellsEvent(int e) {
            return ((eventsOff >> e) & 1) == 0;
        }

        private boolean groupIsOn(int group) {
            return ((groupsOff >> group) & 1) == 0;
        }

        int tellSchedule(int what) {
            if (what == 0) {
                return entries.count;
            }
            if (what == 1) {
                return scheduleOn ? 1 : 0;
            }
            if (what < 2 || what > 5) {
                return BAD;
            }
            return groupIsOn(what - 2) ? 1 : 0;
        }

        // ---- looking at packets

        /** The packet "given" is looked at. */
        void look(int depth) {
            int reason = whyRefused();
            if (reason != 0) {
                parameters[REFUSED]++;
                report(given, 2, reason);
                return;
            }
            if ((given.at(6) & 8) != 0) {
                report(given, 1, 0);
            }
            requests.add(given, 0, given.size, depth, 0);
        }

        /** Report 1, x of a packet; with a code but where it is 0. */
        private void report(Bytes of, int subtype, int reason) {
            maker.begin(1, subtype);
            maker.packet.put(of.at(2));
            maker.packet.put(of.at(3));
            if (reason != 0) {
                maker.packet.put(reason);
            }
            maker.finish();
        }

        private int whyRefused() {
            int n = given.size;
            if (n < LEAST_PACKET || given.two(4) + 7 != n) {
                return 1;
            }
            if (given.checkOf(0, n - 2) != given.two(n - 2)) {
                return 2;
            }
            if (given.two(0) != 0x180C || (given.at(6) & 0xF0) != 0x20) {
                return 3;
            }
            int shape = findShape();
            if (shape < 0) {
                return -shape;
            }
            if (!fitsShape(shape) || !fitsRanges()) {
                return 6;
            }
            return requests.hasPlace() ? 0 : 7;
        }

        /** Where its row of SHAPES begins, or the code turned below 0. */
        private int findShape() {
            int none = -4;
            for (int i = 0; i + SHAPE_ROW <= SHAPES.length; i += SHAPE_ROW) {
                if (SHAPES[i] == given.at(7)) {
                    if (SHAPES[i + 1] == given.at(8)) {
                        return i;
                    }
                    none = -5;
                }
            }
            return none;
        }

        private boolean fitsShape(int shape) {
            if (shape < 0 || shape + SHAPE_ROW > SHAPES.length) {
                return false;
            }
            int rest = given.size - LEAST_PACKET - SHAPES[shape + 2];
            int place = SHAPES[shape + 3];
            if (rest < 0) {
                return false;
            }
            if (place == PACKET) {
                return rest >= LEAST_PACKET && rest <= MOST_GIVEN;
            }
            if (place == NO_N) {
                return rest == 0;
            }
            int n = given.at(DATA_PLACE + place);
            return n >= 1 && n <= SHAPES[shape + 4] && rest == n * SHAPES[shape + 5];
        }

        /** Ranges of numbers that are not n's of a byte. */
        private boolean fitsRanges() {
            switch (given.two(7)) {
                case 0x0301: return given.two(DATA_PLACE + 1) >= 1;
                case 0x0609: return given.two(DATA_PLACE + 2) >= 1;
                case 0x0F0C: case 0x1301: return given.at(DATA_PLACE + 1) <= 1;
                default: return true;
            }
        }

        // ---- doing requests

        void runRequests() {
            int n = Math.min(requests.count, REQUESTS_A_TICK);
            for (int i = 0; i < n; i++) {
                int depth = requests.tagOf(0);
                requests.copyOut(0, current);
                requests.remove(0);
                uplink.wait = 0;
                int reason = whyNot();
                if (reason != 0) {
                    fail(4, reason);
                    continue;
                }
                if ((current.at(6) & 4) != 0) {
                    report(current, 3, 0);
                }
                act();
                if (maker.hasBegun()) {
                    maker.finish();
                }
                if (isFunction(3) && happen(argFour(1) & (EVENTS - 1), argFour(1), depth)) {
                    look(depth + 1);
                }
                if (isFunction(2)) {
                    fail(8, 16);
                } else {
                    succeed();
                }
            }
        }

        private void succeed() {
            if ((current.at(6) & 1) != 0) {
                report(current, 7, 0);
            }
            parameters[DONE]++;
        }

        private void fail(int subtype, int reason) {
            report(current, subtype, reason);
            parameters[FAILED]++;
        }

        private boolean isFunction(int k) {
            return current.two(7) == 0x0801 && arg(0) == k;
        }

        private int arg(int i) {
            return current.at(DATA_PLACE + i);
        }

        private int argTwo(int i) {
            return current.two(DATA_PLACE + i);
        }

        private int argFour(int i) {
            return current.four(DATA_PLACE + i);
        }

        private int subtype() {
            return current.at(8);
        }

        private int whyNot() {
            switch (current.at(7)) {
                case 3: return whyNotStructures();
                case 5: return arg(0) >= EVENTS ? 14 : 0;
                case 6: return whyNotMemory();
                case 8: return arg(0) > 3 ? 15 : 0;
                case 11: return whyNotSchedule();
                case 12: return whyNotWatches();
                case 15: return whyNotStores();
                case 19: return whyNotActions();
                case 20: return whyNotParameters();
                default: return 0;
            }
        }

        /** What a report has, if there is one, is begun then and not finished. */
        private void act() {
            switch (current.at(7)) {
                case 3: actStructures(); break;
                case 5: actEvents(); break;
                case 6: actMemory(); break;
                case 8: actFunction(); break;
                case 11: actSchedule(); break;
                case 12: actWatches(); break;
                case 15: actStores(); break;
                case 17: maker.begin(17, 2); break;
                case 19: actActions(); break;
                case 20: actParameters(); break;
                default: break;
            }
        }

        // ---- 17, 20, 8: a test, parameters, functions

        private int whyNotParameters() {
            boolean sets = subtype() == 3;
            int each = sets ? 5 : 1;
            int last = sets ? LAST_OPEN : PARAMETERS - 1;
            int n = arg(0);
            for (int i = 0; i < n; i++) {
                if (arg(1 + each * i) > last) {
                    return 10;
                }
            }
            return 0;
        }

        private void actParameters() {
            int n = arg(0);
            if (subtype() == 3) {
                for (int i = 0; i < n; i++) {
                    setParameter(arg(1 + 5 * i), argFour(2 + 5 * i));
                }
                return;
            }
            maker.begin(20, 2);
            maker.packet.put(n);
            for (int i = 0; i < n; i++) {
                putValue(arg(1 + i));
            }
        }

        private void setParameter(int p, int v) {
            if (p >= 0 && p <= LAST_OPEN) {
                parameters[p] = v;
            }
        }

        private void putValue(int p) {
            maker.packet.put(p);
            maker.packet.putFour(valueOf(p));
        }

        private void actFunction() {
            if (arg(0) == 1) {
                setParameter(0, argFour(1));
            }
        }

        // ---- 6: memory

        private int whyNotMemory() {
            int n = subtype() == 9 ? argTwo(2) : arg(2);
            int end = argTwo(0) + n;
            if (end > MEMORY_BYTES) {
                return 11;
            }
            return subtype() == 2 && end > PROTECTED ? 12 : 0;
        }

        private void actMemory() {
            int address = argTwo(0);
            int n = arg(2);
            if (subtype() == 2) {
                for (int i = 0; i < n; i++) {
                    memory.set(address + i, arg(3 + i));
                }
                return;
            }
            if (subtype() == 5) {
                maker.begin(6, 6);
                maker.packet.putTwo(address);
                maker.packet.put(n);
                maker.packet.putRow(memory.row, address, n);
            } else {
                maker.begin(6, 10);
                maker.packet.putTwo(address);
                maker.packet.putTwo(argTwo(2));
                maker.packet.putTwo(memory.checkOf(address, address + argTwo(2)));
            }
        }

        // ---- 3: structures

        private int whyNotStructures() {
            int s = arg(0);
            if (subtype() == 1) {
                for (int i = 0; i < arg(3); i++) {
                    if (arg(4 + i) >= PARAMETERS) {
                        return 10;
                    }
                }
                return s >= PLACES || isThere(s) ? 13 : 0;
            }
            if (s >= PLACES || !isThere(s)) {
                return 13;
            }
            return subtype() == 3 && structures[s * STRUCTURE_ROW + ON] != 0 ? 13 : 0;
        }

        private boolean isThere(int s) {
            return s >= 0 && s < PLACES && structures[s * STRUCTURE_ROW + THERE] != 0;
        }

        private void actStructures() {
            int s = arg(0);
            if (s >= PLACES) {
                return;
            }
            int base = s * STRUCTURE_ROW;
            switch (subtype()) {
                case 1:
                    defineStructure(base);
                    break;
                case 3:
                    structures[base + THERE] = 0;
                    break;
                case 5:
                    structures[base + ON] = 1;
                    structures[base + WAIT] = structures[base + INTERVAL];
                    break;
                case 6:
                    structures[base + ON] = 0;
                    break;
                default:
                    beginStructureReport(s);
                    break;
            }
        }

        private void defineStructure(int base) {
            int n = Math.min(arg(3), STRUCTURE_ROW - FIRST_P);
            if (base < 0 || base + STRUCTURE_ROW > structures.length) {
                return;
            }
            structures[base + THERE] = 1;
            structures[base + ON] = 0;
            structures[base + INTERVAL] = argTwo(1);
            structures[base + WAIT] = 0;
            structures[base + HOW_MANY] = n;
            for (int i = 0; i < n; i++) {
                structures[base + FIRST_P + i] = arg(4 + i);
            }
        }

        private void beginStructureReport(int s) {
            int base = s * STRUCTURE_ROW;
            if (s < 0 || s >= PLACES) {
                return;
            }
            maker.begin(3, 25);
            maker.packet.put(s);
            int n = Math.min(structures[base + HOW_MANY], STRUCTURE_ROW - FIRST_P);
            maker.packet.put(n);
            for (int i = 0; i < n; i++) {
                putValue(structures[base + FIRST_P + i]);
            }
        }

        void runStructures() {
            for (int s = 0; s < PLACES; s++) {
                int base = s * STRUCTURE_ROW;
                if (structures[base + THERE] != 0 && structures[base + ON] != 0) {
                    structures[base + WAIT]--;
                    if (structures[base + WAIT] == 0) {
                        structures[base + WAIT] = structures[base + INTERVAL];
                        beginStructureReport(s);
                        maker.finish();
                    }
                }
            }
        }

        // ---- 5, 19: events and their actions

        private void actEvents() {
            int mask = 1 << arg(0);
            eventsOff = subtype() == 5 ? eventsOff & ~mask : eventsOff | mask;
        }

        /** Whether the event has an action to be looked at, which is "given" then. */
        private boolean happen(int e, int value, int depth) {
            parameters[HAPPENED]++;
            if (tellsEvent(e)) {
                maker.begin(5, 1 + e / 8);
                maker.packet.put(e);
                maker.packet.putFour(value);
                maker.finish();
            }
            int action = actions.find(e);
            if (action < 0 || actions.markOf(action) == 0 || depth >= DEEPEST) {
                return false;
            }
            actions.copyOut(action, given);
            return true;
        }

        private int whyNotActions() {
            if (arg(0) >= EVENTS) {
                return 14;
            }
            boolean there = actions.find(arg(0)) >= 0;
            return there == (subtype() == 1) ? 19 : 0;
        }

        private void actActions() {
            int action = actions.find(arg(0));
            switch (subtype()) {
                case 1:
                    actions.add(current, DATA_PLACE + 2, current.size - LEAST_PACKET - 2, arg(0), arg(1));
                    break;
                case 2:
                    actions.remove(action);
                    break;
                default:
                    actions.setMark(action, subtype() == 4 ? 1 : 0);
                    break;
            }
        }

        // ---- 12: watches

        private int whyNotWatches() {
            if (subtype() == 13) {
                return 0;
            }
            int m = arg(0);
            int now = m < PLACES ? watches[m * WATCH_ROW + STATE] : 0;
            if (subtype() == 5) {
                return whyNotWatch(m, now);
            }
            if (now == 0) {
                return 17;
            }
            return subtype() == 6 && now != IS_OFF ? 17 : 0;
        }

        private int whyNotWatch(int m, int now) {
            if (arg(1) >= PARAMETERS) {
                return 10;
            }
            if (arg(11) >= EVENTS) {
                return 14;
            }
            if (m >= PLACES || now != 0) {
                return 17;
            }
            return argFour(2) > argFour(6) || arg(10) == 0 ? 18 : 0;
        }

        private void actWatches() {
            if (subtype() == 13) {
                beginWatchReport();
                return;
            }
            if (arg(0) >= PLACES) {
                return;
            }
            int base = arg(0) * WATCH_ROW;
            watches[base + ROW] = 0;
            switch (subtype()) {
                case 1:
                    watches[base + STATE] = IS_UNCHECKED;
                    break;
                case 6:
                    watches[base + STATE] = 0;
                    break;
                case 5:
                    defineWatch(base);
                    break;
                default:
                    watches[base + STATE] = IS_OFF;
                    break;
            }
        }

        private void defineWatch(int base) {
            if (base < 0 || base + WATCH_ROW > watches.length) {
                return;
            }
            watches[base + STATE] = IS_OFF;
            watches[base + WATCHED] = arg(1);
            watches[base + LOW] = argFour(2);
            watches[base + HIGH] = argFour(6);
            watches[base + TIMES] = arg(10);
            watches[base + ITS_EVENT] = arg(11);
        }

        private void beginWatchReport() {
            maker.begin(12, 14);
            for (int m = 0; m < PLACES; m++) {
                maker.packet.put(watches[m * WATCH_ROW + STATE]);
            }
        }

        void runWatches() {
            for (int m = 0; m < PLACES; m++) {
                int base = m * WATCH_ROW;
                if (watches[base + STATE] >= IS_UNCHECKED) {
                    int value = valueOf(watches[base + WATCHED]);
                    if (lookOf(m, value) && happen(watches[base + ITS_EVENT], value, 0)) {
                        look(1);
                    }
                }
            }
        }

        /** A watch looks at its value; whether its event happens. */
        private boolean lookOf(int m, int value) {
            int base = m * WATCH_ROW;
            if (m < 0 || m >= PLACES) {
                return false;
            }
            int seen = value < watches[base + LOW] ? IS_LOW : value > watches[base + HIGH] ? IS_HIGH : IS_IN;
            boolean same = watches[base + ROW] > 0 && watches[base + LATEST_LOOK] == seen;
            watches[base + LATEST_LOOK] = seen;
            watches[base + ROW] = same ? Math.min(watches[base + ROW] + 1, 255) : 1;
            int old = watches[base + STATE];
            if (watches[base + ROW] < watches[base + TIMES] || old == seen) {
                return false;
            }
            maker.begin(12, 12);
            maker.packet.put(m);
            maker.packet.put(watches[base + WATCHED]);
            maker.packet.putFour(value);
            maker.packet.put(old);
            maker.packet.put(seen);
            maker.finish();
            watches[base + STATE] = seen;
            return seen != IS_IN;
        }

        // ---- 11: the schedule

        /** The place of the n-th entry in the order in which they go, or -1. */
        int nthEntry(int n) {
            for (int i = 0; i < entries.count; i++) {
                int ahead = 0;
                for (int k = 0; k < entries.count; k++) {
                    int order = Integer.compare(entries.tagOf(k), entries.tagOf(i));
                    if (order < 0 || (order == 0 && k < i)) {
                        ahead++;
                    }
                }
                if (ahead == n) {
                    return i;
                }
            }
            return -1;
        }

        void runSchedule() {
            for (int i = 0; i < ENTRY_PLACES; i++) {
                int next = nthEntry(0);
                if (next < 0 || entries.tagOf(next) > maker.tick) {
                    return;
                }
                boolean goes = scheduleOn && groupIsOn(entries.markOf(next));
                entries.copyOut(next, given);
                entries.remove(next);
                if (goes) {
                    look(0);
                }
            }
        }

        private int whyNotSchedule() {
            switch (subtype()) {
                case 4: return whyNotEntry();
                case 5: return findCount(argTwo(0)) < 0 ? 23 : 0;
                case 15: return mayShift(argFour(0)) ? 0 : 21;
                case 20: case 21: return arg(0) >= GROUPS ? 20 : 0;
                default: return 0;
            }
        }

        private int whyNotEntry() {
            if (arg(0) >= GROUPS) {
                return 20;
            }
            if (!isLater(argFour(1))) {
                return 21;
            }
            return entries.hasPlace() ? 0 : 22;
        }

        private boolean isLater(long time) {
            return time > maker.tick + 1L && time <= Integer.MAX_VALUE;
        }

        private boolean mayShift(int shift) {
            for (int i = 0; i < entries.count; i++) {
                if (!isLater((long) entries.tagOf(i) + shift)) {
                    return false;
                }
            }
            return true;
        }

        private int countOf(int entryPlace) {
            return entries.twoOf(entryPlace, 2) & Ground.COUNT_MASK;
        }

        /** The first entry, in the order in which they go, with a packet's count; or -1. */
        private int findCount(int count) {
            for (int n = 0; n < entries.count; n++) {
                int i = nthEntry(n);
                if (countOf(i) == count) {
                    return i;
                }
            }
            return -1;
        }

        private void actSchedule() {
            switch (subtype()) {
                case 1: scheduleOn = true; break;
                case 2: scheduleOn = false; break;
                case 3: entries.clear(); break;
                case 4:
                    entries.add(current, DATA_PLACE + 5, current.size - LEAST_PACKET - 5, argFour(1), arg(0));
                    break;
                case 5: entries.remove(findCount(argTwo(0))); break;
                case 15: shiftAll(argFour(0)); break;
                case 16: beginScheduleReport(); break;
                case 20: groupsOff &= ~(1 << arg(0)); break;
                case 21: groupsOff |= 1 << arg(0); break;
                default: break;
            }
        }

        private void shiftAll(int shift) {
            for (int i = 0; i < entries.count; i++) {
                entries.setTag(i, entries.tagOf(i) + shift);
            }
        }

        private void beginScheduleReport() {
            int n = Math.min(entries.count, 8);
            maker.begin(11, 17);
            maker.packet.put(n);
            for (int k = 0; k < n; k++) {
                int i = nthEntry(k);
                maker.packet.putFour(entries.tagOf(i));
                maker.packet.putTwo(countOf(i));
            }
        }

        // ---- 15: stores

        private int whyNotStores() {
            if (arg(0) >= Maker.STORES) {
                return 24;
            }
            switch (subtype()) {
                case 3: return maker.stores[arg(0)].mayChoose(argTwo(1)) ? 0 : 25;
                case 9: return maker.passed.count > 0 ? 26 : 0;
                default: return 0;
            }
        }

        private void actStores() {
            if (arg(0) >= Maker.STORES) {
                return;
            }
            Store of = maker.stores[arg(0)];
            switch (subtype()) {
                case 1: of.on = true; break;
                case 2: of.on = false; break;
                case 3: of.choose(argTwo(1)); break;
                case 9: maker.pass(of, argFour(1), argFour(5)); break;
                case 11: of.dropUpTo(argFour(1)); break;
                case 12: of.reset(arg(1)); break;
                default: break;
            }
        }
    }
}
