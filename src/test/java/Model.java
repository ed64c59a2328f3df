import java.util.ArrayList;
import java.util.Arrays;
import java.util.Comparator;
import java.util.List;
import java.util.stream.Collectors;

/** The document once more, written for plainness alone, to hold the class against. */
final class Model {
    static final int BAD = -1;
    static final int NONE = -2;
    static final int FULL = -3;

    // the tape and the lines
    List<Integer> tape = new ArrayList<>();
    final StringBuilder[] lines = {new StringBuilder(), new StringBuilder()};
    final int[] lineRoom = {32000, 64000};

    // the craft's ear and machine
    String heardUp = "";
    boolean blocks;
    String block = "";
    List<Integer> data = new ArrayList<>();
    int mended, units, taken, badUp, bypassLost;
    int v, b, w = 16;
    boolean lockout, wait, again;

    // on board
    static final class Req {
        List<Integer> packet;
        int depth;
    }

    static final class Entry {
        int time, group;
        List<Integer> packet;
    }

    static final class Action {
        boolean on;
        List<Integer> packet;
    }

    static final class Structure {
        boolean on;
        int interval, wait;
        List<Integer> ps = new ArrayList<>();
    }

    static final class Watch {
        int state, p, low, high, times, event, row, before;
    }

    static final class Made {
        List<Integer> packet;
        int tick;
    }

    static final class Keep {
        int kind, lost;
        boolean on;
        List<Made> packets = new ArrayList<>();
        List<Integer> chosen = new ArrayList<>();

        int bytes() {
            return packets.stream().mapToInt(m -> m.packet.size()).sum();
        }
    }

    int tick, made, lostLive, refused, failed, done, events;
    final List<Req> requests = new ArrayList<>();
    final int[] parameters = new int[16];
    final int[] memory = new int[1024];
    final Structure[] structures = new Structure[6];
    final Watch[] watches = new Watch[6];
    final boolean[] eventOff = new boolean[32];
    final Action[] actions = new Action[32];
    boolean scheduleOn;
    final boolean[] groupOff = new boolean[4];
    final List<Entry> entries = new ArrayList<>();
    final Keep[] stores = {new Keep(), new Keep()};
    final List<List<Integer>> live = new ArrayList<>();
    final List<List<Integer>> passed = new ArrayList<>();

    // frames down
    int all;
    final int[] own = new int[8];
    final List<List<Integer>> begunDown = new ArrayList<>(List.of(new ArrayList<>(), new ArrayList<>()));
    final boolean[] begunIsIdle = new boolean[2];
    int channelBefore = -1;

    // the ground
    static final class Asked {
        int status, code, service, subtype;
    }

    static final class Up {
        int number;
        List<Integer> packet;
        boolean marked;
    }

    static final class Kept {
        int channel;
        List<Integer> packet;
    }

    final List<Asked> asked = new ArrayList<>();
    final List<Up> sent = new ArrayList<>();
    final List<Up> waiting = new ArrayList<>();
    int state = 6, s, a, count = 1, limit = 3, k = 8, timer, time = 20, kind, hold, alarm;
    List<Integer> controlFrame = new ArrayList<>();
    int e, f, misses, framesDown, badDown, gaps, reports, lastV, lastBits;
    boolean locked, inFrame;
    String heardDown = "";
    String frameBits = "";
    final int[] ownBefore = {-1, -1};
    final List<List<Integer>> joining = new ArrayList<>(List.of(new ArrayList<>(), new ArrayList<>()));
    int archivedAll, badPackets, missing, countBefore = -1;
    final List<Kept> archive = new ArrayList<>();
    final boolean[] isShown = new boolean[24];
    final int[] shownValue = new int[24];
    final int[] shownTick = new int[24];

    // ---- helpers

    static int check(List<Integer> row) {
        int c = 0xFFFF;
        for (int x : row) {
            for (int i = 7; i >= 0; i--) {
                boolean differs = ((c >> 15) & 1) != ((x >> i) & 1);
                c = (2 * c) & 0xFFFF;
                if (differs) {
                    c ^= 0x1021;
                }
            }
        }
        return c;
    }

    static void put2(List<Integer> row, int x) {
        row.add((x >> 8) & 255);
        row.add(x & 255);
    }

    static void put4(List<Integer> row, int x) {
        put2(row, x >>> 16);
        put2(row, x);
    }

    static int get2(List<Integer> row, int i) {
        return row.get(i) * 256 + row.get(i + 1);
    }

    static int get4(List<Integer> row, int i) {
        return (get2(row, i) << 16) + get2(row, i + 2);
    }

    static String bitsOf(List<Integer> row) {
        StringBuilder text = new StringBuilder();
        for (int x : row) {
            for (int i = 7; i >= 0; i--) {
                text.append((x >> i) & 1);
            }
        }
        return text.toString();
    }

    static List<Integer> bytesOf(String bits) {
        List<Integer> row = new ArrayList<>();
        for (int i = 0; i + 8 <= bits.length(); i += 8) {
            row.add(Integer.parseInt(bits.substring(i, i + 8), 2));
        }
        return row;
    }

    static int distance(String one, String other) {
        int n = 0;
        for (int i = 0; i < one.length(); i++) {
            n += one.charAt(i) == other.charAt(i) ? 0 : 1;
        }
        return n;
    }

    /** Seven bits: the remainder of a row of bits by x^7 + x^6 + x^2 + 1. */
    static String remainder(String bits) {
        char[] row = bits.toCharArray();
        for (int i = 0; i + 7 < row.length; i++) {
            if (row[i] == '1') {
                for (int j : new int[] {0, 1, 5, 7}) {
                    row[i + j] = row[i + j] == '1' ? '0' : '1';
                }
            }
        }
        return new String(row, row.length - 7, 7);
    }

    static String turned(String bits) {
        return bits.replace('0', 'x').replace('1', '0').replace('x', '1');
    }

    static String turnedAt(String bits, int i) {
        return bits.substring(0, i) + (bits.charAt(i) == '1' ? '0' : '1') + bits.substring(i + 1);
    }

    /** 56 bits, or null; how many bits were turned goes to turns[0]. */
    static String mend(String block64, int[] turns) {
        String bits = block64.substring(0, 56) + turned(block64.substring(56, 63));
        turns[0] = 0;
        if (remainder(bits).equals("0000000")) {
            return bits.substring(0, 56);
        }
        for (int i = 0; i < 63; i++) {
            String other = turnedAt(bits, i);
            if (remainder(other).equals("0000000")) {
                turns[0] = 1;
                return other.substring(0, 56);
            }
        }
        return null;
    }

    static List<Integer> unitOf(List<Integer> row) {
        List<Integer> full = new ArrayList<>(row);
        while (full.size() % 7 != 0) {
            full.add(0x55);
        }
        List<Integer> unit = new ArrayList<>(List.of(0xEB, 0x90));
        for (int i = 0; i < full.size(); i += 7) {
            String bits = bitsOf(full.subList(i, i + 7));
            unit.addAll(bytesOf(bits + turned(remainder(bits + "0000000")) + "0"));
        }
        unit.addAll(List.of(0xC5, 0xC5, 0xC5, 0xC5, 0xC5, 0xC5, 0xC5, 0x79));
        return unit;
    }

    static String noise() {
        StringBuilder bits = new StringBuilder("11111111");
        for (int i = 8; i < 512; i++) {
            bits.append((bits.charAt(i - 1) ^ bits.charAt(i - 3) ^ bits.charAt(i - 5) ^ bits.charAt(i - 8)) & 1);
        }
        return bits.toString();
    }

    static final String NOISE = noise();

    static String withNoise(String bits) {
        StringBuilder mixed = new StringBuilder();
        for (int i = 0; i < bits.length(); i++) {
            mixed.append((bits.charAt(i) ^ NOISE.charAt(i)) & 1);
        }
        return mixed.toString();
    }

    void toLine(int line, List<Integer> row) {
        String bits = bitsOf(row);
        if (lines[line].length() + bits.length() <= lineRoom[line]) {
            lines[line].append(bits);
        }
    }

    // ---- the tape, codes

    int feed(int x, int n) {
        if (n < 1 || n > 4) {
            return BAD;
        }
        if (tape.size() + n > 256) {
            return FULL;
        }
        List<Integer> row = new ArrayList<>();
        put4(row, x);
        tape.addAll(row.subList(4 - n, 4));
        return tape.size();
    }

    int taped(int i) {
        return i < 0 || i >= tape.size() ? BAD : tape.get(i);
    }

    int wipe() {
        int n = tape.size();
        tape.clear();
        return n;
    }

    int check() {
        return check(tape);
    }

    int code(int what) {
        if (what == 0) {
            if (tape.size() > 112) {
                tape.clear();
                return FULL;
            }
            tape = unitOf(tape);
            return tape.size();
        }
        if (what != 1 || tape.size() != 8) {
            return BAD;
        }
        String bits = mend(bitsOf(tape), new int[1]);
        tape.clear();
        if (bits == null) {
            return NONE;
        }
        tape.addAll(bytesOf(bits));
        return 7;
    }

    // ---- lines

    int bits(int line) {
        return line < 0 || line > 1 ? BAD : lines[line].length();
    }

    boolean there(int line, int i) {
        return line >= 0 && line <= 1 && i >= 0 && i < lines[line].length();
    }

    int bit(int line, int i) {
        return there(line, i) ? lines[line].charAt(i) - '0' : BAD;
    }

    int turn(int line, int i) {
        if (!there(line, i)) {
            return BAD;
        }
        lines[line].setCharAt(i, bit(line, i) == 1 ? '0' : '1');
        return bit(line, i);
    }

    int slip(int line, int i) {
        if (!there(line, i)) {
            return BAD;
        }
        lines[line].deleteCharAt(i);
        return lines[line].length();
    }

    int lose(int line, int n) {
        if (line < 0 || line > 1 || n < 0) {
            return BAD;
        }
        lines[line].setLength(Math.max(0, lines[line].length() - n));
        return lines[line].length();
    }

    int inject(int line) {
        if (line < 0 || line > 1) {
            return BAD;
        }
        boolean fits = lines[line].length() + 8 * tape.size() <= lineRoom[line];
        toLine(line, tape);
        tape.clear();
        return fits ? lines[line].length() : FULL;
    }

    int carry(int line, int n) {
        if (line < 0 || line > 1 || n < 0) {
            return BAD;
        }
        int m = Math.min(n, lines[line].length());
        String bits = lines[line].substring(0, m);
        lines[line].delete(0, m);
        for (char bit : bits.toCharArray()) {
            if (line == 0) {
                hearUp(bit);
            } else {
                hearDown(bit);
            }
        }
        return m;
    }

    // ---- the craft's ear and machine

    void hearUp(char bit) {
        if (!blocks) {
            heardUp += bit;
            heardUp = heardUp.substring(Math.max(0, heardUp.length() - 16));
            if (heardUp.length() == 16 && distance(heardUp, bitsOf(List.of(0xEB, 0x90))) <= 1) {
                blocks = true;
                block = "";
                data = new ArrayList<>();
                units++;
            }
            return;
        }
        block += bit;
        if (block.length() < 64) {
            return;
        }
        int[] turns = new int[1];
        String bits = data.size() == 16 * 7 ? null : mend(block, turns);
        block = "";
        if (bits != null) {
            mended += turns[0];
            data.addAll(bytesOf(bits));
            return;
        }
        blocks = false;
        heardUp = "";
        List<Integer> rest = data;
        data = new ArrayList<>();
        while (rest.size() >= 7 && rest.get(0) < 64) {
            int n = (get2(rest, 2) & 1023) + 1;
            if (n > rest.size()) {
                badUp++;
                break;
            }
            frameUp(rest.subList(0, n));
            rest = rest.subList(n, rest.size());
        }
    }

    void frameUp(List<Integer> row) {
        int n = row.size();
        boolean bypass = (row.get(0) & 0x20) != 0;
        boolean control = (row.get(0) & 0x10) != 0;
        if (n < 8 || (row.get(0) & 0xCF) != 0 || row.get(1) != 0xAB || (row.get(2) & 0xFC) != 0
                || check(row.subList(0, n - 2)) != get2(row, n - 2)) {
            badUp++;
            return;
        }
        List<Integer> content = row.subList(5, n - 2);
        boolean unlock = content.equals(List.of(0));
        boolean set = content.size() == 3 && content.get(0) == 0x82 && content.get(1) == 0;
        if (control ? !bypass || !(unlock || set) : content.size() > 60) {
            badUp++;
            return;
        }
        boolean room = requests.size() < 8;
        if (control || bypass) {
            b = (b + 1) % 4;
        }
        if (control) {
            if (unlock) {
                lockout = wait = again = false;
            } else if (!lockout) {
                v = content.get(2);
                wait = again = false;
            }
            return;
        }
        if (bypass) {
            if (room) {
                taken++;
                look(content, 0);
            } else {
                bypassLost++;
            }
            return;
        }
        if (lockout) {
            return;
        }
        int d = Math.floorMod(row.get(4) - v, 256);
        if (d == 0) {
            if (wait) {
                return;
            }
            if (room) {
                v = (v + 1) % 256;
                again = false;
                taken++;
                look(content, 0);
            } else {
                wait = again = true;
            }
        } else if (d >= 1 && d <= w / 2 - 1) {
            again = true;
        } else if (!(d >= 256 - w / 2 && d <= 255)) {
            lockout = true;
        }
    }

    // ---- packets on board

    static final int[][] SUBTYPES = {
        {3, 1, 3, 5, 6, 27}, {5, 5, 6}, {6, 2, 5, 9}, {8, 1}, {11, 1, 2, 3, 4, 5, 15, 16, 20, 21},
        {12, 1, 2, 5, 6, 13}, {15, 1, 2, 3, 9, 11, 12}, {17, 1}, {19, 1, 2, 4, 5}, {20, 1, 3}};

    int codeOf(List<Integer> row) {
        int n = row.size();
        if (n < 13 || get2(row, 4) + 7 != n) {
            return 1;
        }
        if (check(row.subList(0, n - 2)) != get2(row, n - 2)) {
            return 2;
        }
        if (row.get(0) != 0x18 || row.get(1) != 0x0C || row.get(6) / 16 != 2) {
            return 3;
        }
        int service = row.get(7);
        int subtype = row.get(8);
        int[] of = null;
        for (int[] each : SUBTYPES) {
            if (each[0] == service) {
                of = each;
            }
        }
        if (of == null) {
            return 4;
        }
        if (Arrays.stream(of).skip(1).noneMatch(x -> x == subtype)) {
            return 5;
        }
        if (!dataFits(service, subtype, row.subList(11, n - 2))) {
            return 6;
        }
        return requests.size() >= 8 ? 7 : 0;
    }

    static boolean dataFits(int service, int subtype, List<Integer> d) {
        int n = d.size();
        switch (service + "," + subtype) {
            case "17,1": case "12,13": case "11,1": case "11,2": case "11,3": case "11,16":
                return n == 0;
            case "20,1":
                return n >= 1 && d.get(0) >= 1 && d.get(0) <= 8 && n == 1 + d.get(0);
            case "20,3":
                return n >= 1 && d.get(0) >= 1 && d.get(0) <= 6 && n == 1 + 5 * d.get(0);
            case "6,2":
                return n >= 3 && d.get(2) >= 1 && d.get(2) <= 32 && n == 3 + d.get(2);
            case "6,5":
                return n == 3 && d.get(2) >= 1 && d.get(2) <= 64;
            case "6,9":
                return n == 4 && get2(d, 2) >= 1;
            case "3,1":
                return n >= 4 && get2(d, 1) >= 1 && d.get(3) >= 1 && d.get(3) <= 8 && n == 4 + d.get(3);
            case "8,1": case "15,11":
                return n == 5;
            case "12,5":
                return n == 12;
            case "19,1":
                return n >= 2 + 13 && n <= 2 + 40 && d.get(1) <= 1;
            case "11,4":
                return n >= 5 + 13 && n <= 5 + 40;
            case "11,5":
                return n == 2;
            case "11,15":
                return n == 4;
            case "15,12":
                return n == 2 && d.get(1) <= 1;
            case "15,3":
                return n == 3;
            case "15,9":
                return n == 9;
            default:
                return n == 1;
        }
    }

    void make(int service, int subtype, List<Integer> d) {
        List<Integer> row = new ArrayList<>(List.of(0x08, 0x0C));
        put2(row, 0xC000 + made % 16384);
        put2(row, 13 + d.size() + 2 - 7);
        row.addAll(List.of(0x20, service, subtype));
        put4(row, tick);
        row.addAll(d);
        put2(row, check(row));
        made++;
        for (Keep store : stores) {
            if (store.on && store.chosen.contains(service * 256 + subtype)) {
                if (store.kind == 1) {
                    while (store.bytes() + row.size() > 1200) {
                        store.packets.remove(0);
                    }
                }
                if (store.bytes() + row.size() <= 1200) {
                    Made m = new Made();
                    m.packet = row;
                    m.tick = tick;
                    store.packets.add(m);
                } else {
                    store.lost++;
                }
            }
        }
        if (live.size() < 24) {
            live.add(row);
        } else {
            lostLive++;
        }
    }

    void verify(List<Integer> row, int subtype, int code) {
        List<Integer> d = new ArrayList<>();
        d.add(row.size() > 2 ? row.get(2) : 0);
        d.add(row.size() > 3 ? row.get(3) : 0);
        if (subtype == 2 || subtype == 4 || subtype == 8) {
            d.add(code);
        }
        make(1, subtype, d);
    }

    void look(List<Integer> packet, int depth) {
        int code = codeOf(packet);
        if (code != 0) {
            verify(packet, 2, code);
            refused++;
            return;
        }
        if ((packet.get(6) & 8) != 0) {
            verify(packet, 1, 0);
        }
        Req r = new Req();
        r.packet = new ArrayList<>(packet);
        r.depth = depth;
        requests.add(r);
    }

    void happen(int ev, int value, int depth) {
        events++;
        if (!eventOff[ev]) {
            List<Integer> d = new ArrayList<>(List.of(ev));
            put4(d, value);
            make(5, 1 + ev / 8, d);
        }
        if (actions[ev] != null && actions[ev].on && depth < 4) {
            look(actions[ev].packet, depth + 1);
        }
    }

    void doRequest(Req r) {
        List<Integer> p = r.packet;
        int acks = p.get(6) & 15;
        String what = p.get(7) + "," + p.get(8);
        List<Integer> d = p.subList(11, p.size() - 2);
        int code = ahead(what, d);
        if (code != 0) {
            verify(p, 4, code);
            failed++;
            return;
        }
        if ((acks & 4) != 0) {
            verify(p, 3, 0);
        }
        code = perform(what, d, r.depth);
        if (code != 0) {
            verify(p, 8, code);
            failed++;
            return;
        }
        if ((acks & 1) != 0) {
            verify(p, 7, 0);
        }
        done++;
    }

    List<Entry> inOrder() {
        return entries.stream().sorted(Comparator.comparingInt(x -> x.time)).collect(Collectors.toList());
    }

    static int countOf(Entry x) {
        return get2(x.packet, 2) % 16384;
    }

    int ahead(String what, List<Integer> d) {
        int x = d.isEmpty() ? 0 : d.get(0);
        switch (what) {
            case "20,1":
                return d.stream().skip(1).anyMatch(p -> p > 23) ? 10 : 0;
            case "20,3":
                for (int i = 0; i < x; i++) {
                    if (d.get(1 + 5 * i) > 15) {
                        return 10;
                    }
                }
                return 0;
            case "6,2":
                if (get2(d, 0) + d.get(2) - 1 > 1023) {
                    return 11;
                }
                return get2(d, 0) + d.get(2) - 1 >= 768 ? 12 : 0;
            case "6,5":
                return get2(d, 0) + d.get(2) - 1 > 1023 ? 11 : 0;
            case "6,9":
                return get2(d, 0) + get2(d, 2) - 1 > 1023 ? 11 : 0;
            case "3,1":
                if (d.stream().skip(4).anyMatch(p -> p > 23)) {
                    return 10;
                }
                return x > 5 || structures[x] != null ? 13 : 0;
            case "3,3":
                return x > 5 || structures[x] == null || structures[x].on ? 13 : 0;
            case "3,5": case "3,6": case "3,27":
                return x > 5 || structures[x] == null ? 13 : 0;
            case "5,5": case "5,6":
                return x > 31 ? 14 : 0;
            case "8,1":
                return x > 3 ? 15 : 0;
            case "12,5":
                if (d.get(1) > 23) {
                    return 10;
                }
                if (d.get(11) > 31) {
                    return 14;
                }
                if (x > 5 || watches[x] != null) {
                    return 17;
                }
                return get4(d, 2) > get4(d, 6) || d.get(10) == 0 ? 18 : 0;
            case "12,6":
                return x > 5 || watches[x] == null || watches[x].state > 1 ? 17 : 0;
            case "12,1": case "12,2":
                return x > 5 || watches[x] == null ? 17 : 0;
            case "19,1":
                return x > 31 ? 14 : actions[x] != null ? 19 : 0;
            case "19,2": case "19,4": case "19,5":
                return x > 31 ? 14 : actions[x] == null ? 19 : 0;
            case "11,4":
                if (x > 3) {
                    return 20;
                }
                if (get4(d, 1) <= (long) tick + 1) {
                    return 21;
                }
                return entries.size() >= 16 ? 22 : 0;
            case "11,5":
                return entries.stream().noneMatch(y -> countOf(y) == get2(d, 0)) ? 23 : 0;
            case "11,15":
                for (Entry y : entries) {
                    long to = (long) y.time + get4(d, 0);
                    if (to <= (long) tick + 1 || to > 0x7FFFFFFFL) {
                        return 21;
                    }
                }
                return 0;
            case "11,20": case "11,21":
                return x > 3 ? 20 : 0;
            case "15,1": case "15,2": case "15,11": case "15,12":
                return x > 1 ? 24 : 0;
            case "15,3":
                if (x > 1) {
                    return 24;
                }
                return stores[x].chosen.size() >= 6 && !stores[x].chosen.contains(get2(d, 1)) ? 25 : 0;
            case "15,9":
                return x > 1 ? 24 : !passed.isEmpty() ? 26 : 0;
            default:
                return 0;
        }
    }

    int perform(String what, List<Integer> d, int depth) {
        int x = d.isEmpty() ? 0 : d.get(0);
        List<Integer> out = new ArrayList<>();
        switch (what) {
            case "17,1":
                make(17, 2, out);
                break;
            case "20,1":
                out.add(x);
                for (int p : d.subList(1, d.size())) {
                    out.add(p);
                    put4(out, parameter(p));
                }
                make(20, 2, out);
                break;
            case "20,3":
                for (int i = 0; i < x; i++) {
                    parameters[d.get(1 + 5 * i)] = get4(d, 2 + 5 * i);
                }
                break;
            case "6,2":
                for (int i = 0; i < d.get(2); i++) {
                    memory[get2(d, 0) + i] = d.get(3 + i);
                }
                break;
            case "6,5":
                out.addAll(d);
                for (int i = 0; i < d.get(2); i++) {
                    out.add(memory[get2(d, 0) + i]);
                }
                make(6, 6, out);
                break;
            case "6,9":
                List<Integer> part = new ArrayList<>();
                for (int i = 0; i < get2(d, 2); i++) {
                    part.add(memory[get2(d, 0) + i]);
                }
                out.addAll(d);
                put2(out, check(part));
                make(6, 10, out);
                break;
            case "3,1":
                structures[x] = new Structure();
                structures[x].interval = get2(d, 1);
                structures[x].ps.addAll(d.subList(4, d.size()));
                break;
            case "3,3":
                structures[x] = null;
                break;
            case "3,5":
                structures[x].on = true;
                structures[x].wait = structures[x].interval;
                break;
            case "3,6":
                structures[x].on = false;
                break;
            case "3,27":
                structureReport(x);
                break;
            case "5,5": case "5,6":
                eventOff[x] = what.equals("5,6");
                break;
            case "8,1":
                int argument = get4(d, 1);
                if (x == 1) {
                    parameters[0] = argument;
                }
                if (x == 2) {
                    return 16;
                }
                if (x == 3) {
                    happen(argument & 31, argument, depth);
                }
                break;
            case "12,5":
                Watch watch = new Watch();
                watch.state = 1;
                watch.p = d.get(1);
                watch.low = get4(d, 2);
                watch.high = get4(d, 6);
                watch.times = d.get(10);
                watch.event = d.get(11);
                watches[x] = watch;
                break;
            case "12,6":
                watches[x] = null;
                break;
            case "12,1": case "12,2":
                watches[x].state = what.equals("12,1") ? 2 : 1;
                watches[x].row = 0;
                break;
            case "12,13":
                for (Watch each : watches) {
                    out.add(each == null ? 0 : each.state);
                }
                make(12, 14, out);
                break;
            case "19,1":
                actions[x] = new Action();
                actions[x].on = d.get(1) == 1;
                actions[x].packet = new ArrayList<>(d.subList(2, d.size()));
                break;
            case "19,2":
                actions[x] = null;
                break;
            case "19,4": case "19,5":
                actions[x].on = what.equals("19,4");
                break;
            default:
                performLater(what, d, x, out);
        }
        return 0;
    }

    void performLater(String what, List<Integer> d, int x, List<Integer> out) {
        switch (what) {
            case "11,1": case "11,2":
                scheduleOn = what.equals("11,1");
                break;
            case "11,3":
                entries.clear();
                break;
            case "11,4":
                Entry en = new Entry();
                en.group = x;
                en.time = get4(d, 1);
                en.packet = new ArrayList<>(d.subList(5, d.size()));
                entries.add(en);
                break;
            case "11,5":
                for (Entry each : inOrder()) {
                    if (countOf(each) == get2(d, 0)) {
                        entries.remove(each);
                        break;
                    }
                }
                break;
            case "11,15":
                for (Entry each : entries) {
                    each.time += get4(d, 0);
                }
                break;
            case "11,16":
                List<Entry> row = inOrder();
                int n = Math.min(8, row.size());
                out.add(n);
                for (Entry each : row.subList(0, n)) {
                    put4(out, each.time);
                    put2(out, countOf(each));
                }
                make(11, 17, out);
                break;
            case "11,20": case "11,21":
                groupOff[x] = what.equals("11,21");
                break;
            case "15,12":
                stores[x] = new Keep();
                stores[x].kind = d.get(1);
                break;
            case "15,1": case "15,2":
                stores[x].on = what.equals("15,1");
                break;
            case "15,3":
                if (!stores[x].chosen.contains(get2(d, 1))) {
                    stores[x].chosen.add(get2(d, 1));
                }
                break;
            case "15,9":
                for (Made m : stores[x].packets) {
                    if (m.tick >= get4(d, 1) && m.tick <= get4(d, 5) && passed.size() < 40) {
                        passed.add(m.packet);
                    }
                }
                break;
            case "15,11":
                stores[x].packets.removeIf(m -> m.tick <= get4(d, 1));
                break;
            default:
                throw new IllegalStateException(what);
        }
    }

    void structureReport(int x) {
        List<Integer> out = new ArrayList<>(List.of(x, structures[x].ps.size()));
        for (int p : structures[x].ps) {
            out.add(p);
            put4(out, parameter(p));
        }
        make(3, 25, out);
    }

    int parameter(int p) {
        if (p >= 0 && p <= 15) {
            return parameters[p];
        }
        switch (p) {
            case 16: return taken;
            case 17: return badUp;
            case 18: return refused;
            case 19: return failed;
            case 20: return done;
            case 21: return entries.size();
            case 22: return events;
            case 23: return tick;
            default: return 0;
        }
    }

    // ---- each tick

    int tick(int n) {
        if (n < 0 || n > 200) {
            return BAD;
        }
        for (int i = 0; i < n; i++) {
            oneTick();
        }
        return tick;
    }

    void oneTick() {
        tick++;
        for (Entry each : inOrder()) {
            if (each.time <= tick) {
                entries.remove(each);
                if (scheduleOn && !groupOff[each.group]) {
                    look(each.packet, 0);
                }
            }
        }
        for (int i = 0; i < 6; i++) {
            if (structures[i] != null && structures[i].on && --structures[i].wait == 0) {
                structures[i].wait = structures[i].interval;
                structureReport(i);
            }
        }
        for (int i = 0; i < 6; i++) {
            if (watches[i] != null && watches[i].state >= 2) {
                watchLooks(i, watches[i]);
            }
        }
        int n = Math.min(4, requests.size());
        for (int i = 0; i < n; i++) {
            Req r = requests.remove(0);
            wait = false;
            doRequest(r);
        }
        frameDown();
        if (timer > 0 && --timer == 0) {
            timeOut();
        }
    }

    void watchLooks(int m, Watch x) {
        int value = parameter(x.p);
        int now = value < x.low ? 4 : value > x.high ? 5 : 3;
        if (x.row > 0 && x.before == now) {
            x.row = Math.min(255, x.row + 1);
        } else {
            x.row = 1;
        }
        x.before = now;
        if (x.row >= x.times && x.state != now) {
            List<Integer> out = new ArrayList<>(List.of(m, x.p));
            put4(out, value);
            out.add(x.state);
            out.add(now);
            make(12, 12, out);
            x.state = now;
            if (now != 3) {
                happen(x.event, value, 0);
            }
        }
    }

    boolean wants(int channel) {
        return !(channel == 0 ? live : passed).isEmpty()
            || !begunDown.get(channel).isEmpty() && !begunIsIdle[channel];
    }

    void frameDown() {
        int channel = 7;
        if (wants(1) && (channelBefore != 1 || !wants(0))) {
            channel = 1;
        } else if (wants(0)) {
            channel = 0;
        }
        channelBefore = channel;
        List<Integer> inside = new ArrayList<>();
        int first = 0x7FF;
        if (channel == 7) {
            first = 0x7FE;
            for (int i = 0; i < 52; i++) {
                inside.add(0x55);
            }
        } else {
            List<Integer> rest = begunDown.get(channel);
            inside.addAll(rest);
            while (inside.size() < 52) {
                if (first == 0x7FF) {
                    first = inside.size();
                }
                List<List<Integer>> from = channel == 0 ? live : passed;
                if (from.isEmpty()) {
                    begunIsIdle[channel] = true;
                    int n = Math.max(7, 52 - inside.size());
                    inside.addAll(List.of(7, 255, 192, 0));
                    put2(inside, n - 7);
                    for (int i = 6; i < n; i++) {
                        inside.add(0);
                    }
                } else {
                    begunIsIdle[channel] = false;
                    inside.addAll(from.remove(0));
                }
            }
            begunDown.set(channel, new ArrayList<>(inside.subList(52, inside.size())));
            inside = inside.subList(0, 52);
        }
        List<Integer> row = new ArrayList<>();
        put2(row, 0x0AB * 16 + channel * 2 + 1);
        row.add(all % 256);
        row.add(own[channel] % 256);
        all++;
        own[channel]++;
        put2(row, 0x1800 + first);
        row.addAll(inside);
        row.addAll(List.of(1, 0, (lockout ? 32 : 0) + (wait ? 16 : 0) + (again ? 8 : 0) + 2 * b, v));
        put2(row, check(row));
        List<Integer> marked = new ArrayList<>(List.of(0x1A, 0xCF, 0xFC, 0x1D));
        marked.addAll(bytesOf(withNoise(bitsOf(row))));
        toLine(1, marked);
    }

    // ---- the ground's machine

    void transmit(boolean bypass, boolean control, int n, List<Integer> content) {
        List<Integer> row = new ArrayList<>();
        put2(row, (bypass ? 0x2000 : 0) + (control ? 0x1000 : 0) + 0xAB);
        put2(row, content.size() + 6);
        row.add(n);
        row.addAll(content);
        put2(row, check(row));
        toLine(0, unitOf(row));
    }

    Asked ask(int number) {
        return number >= 0 && number < asked.size() && number >= asked.size() - 64 ? asked.get(number) : null;
    }

    void go() {
        while (state == 1 || state == 2) {
            boolean again1 = false;
            for (int i = 0; i < sent.size() && !again1; i++) {
                if (sent.get(i).marked) {
                    sent.get(i).marked = false;
                    transmit(false, false, (a + i) % 256, sent.get(i).packet);
                    again1 = true;
                }
            }
            if (again1) {
                continue;
            }
            if (waiting.isEmpty() || sent.size() >= k) {
                return;
            }
            Up u = waiting.remove(0);
            if (sent.isEmpty()) {
                count = 1;
            }
            sent.add(u);
            transmit(false, false, s, u.packet);
            s = (s + 1) % 256;
            asked.get(u.number).status = 2;
            timer = time;
        }
    }

    void repeat() {
        count++;
        timer = time;
        sent.forEach(u -> u.marked = true);
    }

    void clearTo(int x) {
        while (a != x) {
            Asked q = asked.get(sent.remove(0).number);
            if (q.status == 2) {
                q.status = 3;
            }
            a = (a + 1) % 256;
        }
        count = 1;
        if (sent.isEmpty()) {
            timer = 0;
        }
    }

    void dropBoth() {
        for (Up u : sent) {
            if (asked.get(u.number).status == 2) {
                asked.get(u.number).status = 4;
            }
        }
        for (Up u : waiting) {
            if (asked.get(u.number).status == 1) {
                asked.get(u.number).status = 4;
            }
        }
        sent.clear();
        waiting.clear();
        a = s;
    }

    void alarm(int n) {
        alarm = n;
        dropBoth();
        timer = 0;
        hold = 0;
        state = 6;
    }

    void report(boolean lock, boolean waits, boolean asks, int x) {
        if (state == 6) {
            return;
        }
        if (lock) {
            if (state != 5) {
                alarm(1);
            }
            return;
        }
        boolean among = x == s;
        for (int i = a; i != s; i = (i + 1) % 256) {
            among |= i == x;
        }
        if (!among) {
            alarm(2);
            return;
        }
        if (x == s) {
            if (asks) {
                if (state != 5) {
                    alarm(3);
                }
            } else if (waits) {
                if (state != 5) {
                    alarm(4);
                }
            } else if (x == a) {
                if (state == 2 || state == 3) {
                    alarm(3);
                } else if (state == 4 || state == 5) {
                    state = 1;
                    timer = 0;
                    go();
                }
            } else {
                clearTo(x);
                state = 1;
                go();
            }
        } else if (!asks) {
            if (waits) {
                alarm(4);
            } else if (x == a) {
                if (state != 1) {
                    alarm(3);
                }
            } else {
                clearTo(x);
                state = 1;
                go();
            }
        } else if (limit == 1) {
            if (x != a) {
                clearTo(x);
            }
            alarm(5);
        } else if (x != a) {
            clearTo(x);
            if (waits) {
                state = 3;
            } else {
                repeat();
                state = 2;
                go();
            }
        } else if (waits) {
            state = 3;
        } else if (count >= limit) {
            state = 2;
        } else if (state != 2) {
            repeat();
            state = 2;
            go();
        }
    }

    void timeOut() {
        if (count < limit) {
            if (state == 1 || state == 2) {
                repeat();
                go();
            } else if (state == 4) {
                if (kind == 0) {
                    alarm(6);
                } else {
                    hold = 4;
                    state = 6;
                }
            } else if (state == 5) {
                transmit(true, true, 0, controlFrame);
                count++;
                timer = time;
            }
        } else if (kind == 0 || state == 5) {
            alarm(6);
        } else {
            hold = state;
            state = 6;
        }
    }

    List<Integer> newRequest(int service, int subtype, int acks, int status) {
        Asked q = new Asked();
        q.status = status;
        q.service = service;
        q.subtype = subtype;
        List<Integer> row = new ArrayList<>(List.of(0x18, 0x0C));
        put2(row, 0xC000 + asked.size() % 16384);
        put2(row, tape.size() + 13 - 7);
        row.addAll(List.of(0x20 + acks, service, subtype, 0, 0));
        row.addAll(tape);
        put2(row, check(row));
        asked.add(q);
        tape.clear();
        return row;
    }

    static boolean isByte(int x) {
        return x >= 0 && x <= 255;
    }

    int build(int service, int subtype, int acks) {
        if (!isByte(service) || !isByte(subtype) || acks < 0 || acks > 15) {
            return BAD;
        }
        if (tape.size() + 13 > 100) {
            tape.clear();
            return FULL;
        }
        tape = newRequest(service, subtype, acks, 0);
        return asked.size() - 1;
    }

    int request(int service, int subtype, int acks, boolean bypass) {
        if (!isByte(service) || !isByte(subtype) || acks < 0 || acks > 15) {
            return BAD;
        }
        int no = !bypass && state > 3 ? NONE : tape.size() + 13 > 60 || !bypass && waiting.size() >= 32 ? FULL : 0;
        if (no != 0) {
            tape.clear();
            return no;
        }
        List<Integer> row = newRequest(service, subtype, acks, bypass ? 2 : 1);
        int number = asked.size() - 1;
        if (bypass) {
            transmit(true, false, 0, row);
        } else {
            Up u = new Up();
            u.number = number;
            u.packet = row;
            waiting.add(u);
            go();
        }
        return number;
    }

    int requests() {
        return asked.size();
    }

    int became(int number, int what) {
        Asked q = ask(number);
        if (q == null || what < 0 || what > 3) {
            return BAD;
        }
        return new int[] {q.status, q.code, q.service, q.subtype}[what];
    }

    int direct(int what, int x) {
        int[] low = {Integer.MIN_VALUE, Integer.MIN_VALUE, Integer.MIN_VALUE, 0, Integer.MIN_VALUE, Integer.MIN_VALUE,
            0, 1, 1, 1, 0, 2};
        int[] high = {Integer.MAX_VALUE, Integer.MAX_VALUE, Integer.MAX_VALUE, 255, Integer.MAX_VALUE,
            Integer.MAX_VALUE, 255, 32, 1000, 15, 1, 254};
        if (what < 0 || what > 11 || x < low[what] || x > high[what] || what == 11 && x % 2 != 0) {
            return BAD;
        }
        if (what <= 3) {
            if (state != 6) {
                return NONE;
            }
            dropBoth();
            hold = 0;
            count = 1;
            if (what == 0) {
                state = 1;
            } else if (what == 1) {
                state = 4;
                timer = time;
            } else {
                if (what == 3) {
                    s = a = x;
                }
                state = 5;
                controlFrame = what == 2 ? List.of(0) : List.of(0x82, 0, x);
                transmit(true, true, 0, controlFrame);
                timer = time;
            }
            return 1;
        }
        switch (what) {
            case 4:
                alarm(7);
                break;
            case 5:
                if (state != 6 || hold == 0) {
                    return NONE;
                }
                state = hold;
                hold = 0;
                timer = time;
                go();
                break;
            case 6:
                if (state != 6 || hold != 0) {
                    return NONE;
                }
                s = a = x;
                break;
            case 7: k = x; break;
            case 8: time = x; break;
            case 9: limit = x; break;
            case 10: kind = x; break;
            default: w = x;
        }
        return 1;
    }

    int machine(int what) {
        int marked = (int) sent.stream().filter(u -> u.marked).count();
        int[] row = {state, s, a, count, timer, hold, alarm, sent.size(), waiting.size(), marked, limit, k, time, kind};
        return what < 0 || what >= row.length ? BAD : row[what];
    }

    // ---- the ground's ear and what came

    int ear(int what, int x) {
        if (what < 0 || what > 1 || x < 0 || x > 3) {
            return BAD;
        }
        int was = what == 0 ? e : f;
        if (what == 0) {
            e = x;
        } else {
            f = x;
        }
        return was;
    }

    void hearDown(char bit) {
        if (inFrame) {
            frameBits += bit;
            if (frameBits.length() == 512) {
                inFrame = false;
                heardDown = "";
                frameCame(bytesOf(withNoise(frameBits)));
            }
            return;
        }
        heardDown += bit;
        if (heardDown.length() < 32) {
            return;
        }
        heardDown = heardDown.substring(heardDown.length() - 32);
        boolean near = distance(heardDown, bitsOf(List.of(0x1A, 0xCF, 0xFC, 0x1D))) <= e;
        if (near) {
            misses = 0;
            locked = true;
        } else if (!locked) {
            return;
        } else {
            misses++;
            if (misses > f) {
                misses = 0;
                locked = false;
                return;
            }
        }
        inFrame = true;
        frameBits = "";
    }

    void frameCame(List<Integer> row) {
        framesDown++;
        String head = bitsOf(row.subList(0, 6));
        boolean fixed = head.startsWith("00" + "0010101011") && head.charAt(15) == '1'
            && head.substring(32, 37).equals("00011");
        if (!fixed || check(row.subList(0, 62)) != get2(row, 62)) {
            badDown++;
            return;
        }
        String bits = bitsOf(row.subList(60, 61));
        if (row.get(58) == 1 && row.get(59) == 0 && bits.startsWith("00") && bits.endsWith("0")) {
            reports++;
            lastV = row.get(61);
            lastBits = Integer.parseInt(bits.substring(2, 7), 2);
            report(bits.charAt(2) == '1', bits.charAt(3) == '1', bits.charAt(4) == '1', lastV);
        }
        int channel = Integer.parseInt(head.substring(12, 15), 2);
        if (channel > 1) {
            return;
        }
        List<Integer> part = joining.get(channel);
        if (ownBefore[channel] >= 0 && (ownBefore[channel] + 1) % 256 != row.get(3)) {
            gaps++;
            part.clear();
        }
        ownBefore[channel] = row.get(3);
        int from = part.isEmpty() ? get2(row, 4) & 0x7FF : 0;
        if (from > 51) {
            return;
        }
        part.addAll(row.subList(6 + from, 58));
        while (part.size() >= 6) {
            int n = get2(part, 4) + 7;
            if (n > 200) {
                part.clear();
                return;
            }
            if (part.size() < n) {
                return;
            }
            packetCame(channel, new ArrayList<>(part.subList(0, n)));
            part.subList(0, n).clear();
        }
    }

    void packetCame(int channel, List<Integer> row) {
        int n = row.size();
        if (row.get(0) == 7 && row.get(1) == 255) {
            return;
        }
        if (n < 15 || n > 120 || row.get(0) != 8 || row.get(1) != 12 || row.get(2) < 0xC0 || row.get(6) != 0x20
                || check(row.subList(0, n - 2)) != get2(row, n - 2)) {
            badPackets++;
            return;
        }
        archivedAll++;
        Kept kept = new Kept();
        kept.channel = channel;
        kept.packet = row;
        archive.add(0, kept);
        if (archive.size() > 40) {
            archive.remove(40);
        }
        if (channel == 0) {
            int c = get2(row, 2) % 16384;
            if (countBefore >= 0) {
                missing += Math.floorMod(c - countBefore - 1, 16384);
            }
            countBefore = c;
        }
        tell(row.get(7), row.get(8), get4(row, 9), row.subList(13, n - 2));
    }

    void tell(int service, int subtype, int when, List<Integer> d) {
        int from = service == 20 && subtype == 2 ? 0 : service == 3 && subtype == 25 ? 1 : -1;
        if (from >= 0 && d.size() > from) {
            for (int i = 0; i < d.get(from) && from + 1 + 5 * i + 5 <= d.size(); i++) {
                int p = d.get(from + 1 + 5 * i);
                if (p < 24 && (!isShown[p] || when >= shownTick[p])) {
                    isShown[p] = true;
                    shownValue[p] = get4(d, from + 2 + 5 * i);
                    shownTick[p] = when;
                }
            }
        }
        int[] told = {0, 5, 6, 7, 8, 0, 0, 9, 10};
        if (service == 1 && subtype <= 8 && told[subtype] > 0) {
            boolean coded = subtype == 2 || subtype == 4 || subtype == 8;
            if (d.size() < (coded ? 3 : 2)) {
                return;
            }
            for (int i = asked.size() - 1; i >= 0; i--) {
                if (i % 16384 == get2(d, 0) % 16384) {
                    if (ask(i) != null) {
                        asked.get(i).status = told[subtype];
                        asked.get(i).code = coded ? d.get(2) : 0;
                    }
                    break;
                }
            }
        }
    }

    int came(int what) {
        int[] row = {locked ? 1 : 0, misses, framesDown, badDown, gaps, archivedAll, badPackets, missing, reports,
            reports == 0 ? NONE : lastV, reports == 0 ? NONE : lastBits};
        return what < 0 || what >= row.length ? BAD : row[what];
    }

    int archived(int i, int what) {
        if (i < 0 || i >= archive.size() || what < 0 || what > 5) {
            return BAD;
        }
        List<Integer> p = archive.get(i).packet;
        int[] row = {archive.get(i).channel, p.get(7), p.get(8), get4(p, 9), get2(p, 2) % 16384, p.size()};
        return row[what];
    }

    int archivedByte(int i, int at) {
        if (i < 0 || i >= archive.size() || at < 0 || at >= archive.get(i).packet.size()) {
            return BAD;
        }
        return archive.get(i).packet.get(at);
    }

    int shown(int p, int what) {
        if (p < 0 || p > 23 || what < 0 || what > 2) {
            return 0;
        }
        return what == 0 ? (isShown[p] ? 1 : 0) : what == 1 ? shownValue[p] : shownTick[p];
    }

    // ---- the craft

    int sense(int p, int x) {
        if (p < 0 || p > 15) {
            return 0;
        }
        int was = parameters[p];
        parameters[p] = x;
        return was;
    }

    int memory(int address) {
        return address < 0 || address > 1023 ? BAD : memory[address];
    }

    int craft(int what) {
        int[] row = {v, lockout ? 1 : 0, wait ? 1 : 0, again ? 1 : 0, b, w, requests.size(), live.size(),
            passed.size(), lostLive, blocks ? 1 : 0, data.size(), mended, units, made, bypassLost};
        return what < 0 || what >= row.length ? BAD : row[what];
    }

    int structure(int i, int what) {
        if (i < 0 || i > 5 || what < 0) {
            return BAD;
        }
        Structure x = structures[i];
        if (x == null) {
            return what == 0 ? 0 : BAD;
        }
        if (what >= 5) {
            return what - 5 < x.ps.size() ? x.ps.get(what - 5) : BAD;
        }
        return new int[] {1, x.on ? 1 : 0, x.interval, x.wait, x.ps.size()}[what];
    }

    int watch(int m, int what) {
        if (m < 0 || m > 5 || what < 0 || what > 6) {
            return BAD;
        }
        Watch x = watches[m];
        if (x == null) {
            return what == 0 ? 0 : BAD;
        }
        return new int[] {x.state, x.p, x.low, x.high, x.times, x.event, x.row}[what];
    }

    int event(int ev, int what) {
        if (ev < 0 || ev > 31 || what < 0 || what > 3) {
            return BAD;
        }
        Action x = actions[ev];
        return new int[] {eventOff[ev] ? 0 : 1, x == null ? 0 : 1, x != null && x.on ? 1 : 0,
            x == null ? 0 : x.packet.size()}[what];
    }

    int entry(int i, int what) {
        if (i == NONE) {
            if (what < 0 || what > 5) {
                return BAD;
            }
            return what == 0 ? entries.size() : what == 1 ? (scheduleOn ? 1 : 0) : groupOff[what - 2] ? 0 : 1;
        }
        if (i < 0 || i >= entries.size() || what < 0 || what > 2) {
            return BAD;
        }
        Entry x = inOrder().get(i);
        return new int[] {x.time, x.group, x.packet.size()}[what];
    }

    int store(int i, int what) {
        if (i < 0 || i > 1 || what < 0 || what > 7) {
            return BAD;
        }
        Keep x = stores[i];
        int n = x.packets.size();
        return new int[] {x.kind, x.on ? 1 : 0, n, x.bytes(), x.lost, x.chosen.size(),
            n == 0 ? NONE : x.packets.get(0).tick, n == 0 ? NONE : x.packets.get(n - 1).tick}[what];
    }
}
