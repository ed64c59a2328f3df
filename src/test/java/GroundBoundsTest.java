import java.util.Arrays;

/** Boundary cases, a test for each sentence that names one: part 7 THE GROUND, promises 16, 17, 21 to 24. */
public final class GroundBoundsTest extends Trip {
    private GroundBoundsTest() {
    }

    public static void main(String[] args) throws Exception {
        Kit.runAll(GroundBoundsTest.class);
    }

    /** An object with so many requests that are BUILT. */
    private static CraftHouse built(int n) {
        CraftHouse x = new CraftHouse();
        for (int i = 0; i < n; i++) {
            x.build(i & 255, 255 - i & 255, 0);
            x.wipe();
        }
        return x;
    }

    private static byte[] told(int subtype, byte[]... data) {
        return Kit.packetDown(0, 1, subtype, 1, Kit.join(data));
    }

    // ---- requests

    private static void requestsAreCounted() {
        Kit.about("promise 16, how many requests there were, so the next number");
        CraftHouse x = new CraftHouse();
        due("none", x.requests(), 0);
        due("build", x.build(1, 1, 1), 0);
        due("requests", x.requests(), 1);
        x.wipe();
        due("refused", x.request(1, 1, 1, false), NONE);
        due("refused", x.build(256, 1, 1), BAD);
        due("requests", x.requests(), 1);
        due("BYPASS", x.request(1, 1, 1, true), 1);
        due("requests", x.requests(), 2);
        due("requests beyond 64", built(130).requests(), 130);
    }

    private static void theLatestSixtyFour() {
        Kit.about("promise 17, BAD: none of the latest 64");
        for (int n : new int[] {0, 1, 63, 64, 65, 128, 129}) {
            CraftHouse x = built(n);
            int oldest = Math.max(0, n - 64);
            for (int number : new int[] {Integer.MIN_VALUE, -65, -64, -1, oldest - 1, n, n + 1, n + 64, Integer.MAX_VALUE}) {
                due(n + ": became(" + number + ", 0)", x.became(number, 0), BAD);
                due(n + ": became(" + number + ", 2)", x.became(number, 2), BAD);
            }
            if (n > 0) {
                for (int number : new int[] {oldest, n - 1}) {
                    due(n + ": became(" + number + ", 0)", x.became(number, 0), 0);
                    due(n + ": became(" + number + ", 1)", x.became(number, 1), 0);
                    due(n + ": became(" + number + ", 2)", x.became(number, 2), number & 255);
                    due(n + ": became(" + number + ", 3)", x.became(number, 3), 255 - number & 255);
                }
            }
        }
    }

    private static void becameHasBounds() {
        Kit.about("promise 17, what: 0 to 3");
        CraftHouse x = built(1);
        for (int what : new int[] {Integer.MIN_VALUE, -1, 4, 5, Integer.MAX_VALUE}) {
            due("became(0, " + what + ")", x.became(0, what), BAD);
        }
    }

    private static void aNewRequestHasNoCode() {
        Kit.about("7, a code (0): also of one that has the place of an older one");
        CraftHouse x = built(1);
        alone(x, 0, told(2, Kit.two(0), b(99)));
        due("code", x.became(0, 1), 99);
        for (int i = 0; i < 64; i++) {
            x.build(3, 4, 0);
            x.wipe();
        }
        due("became(64, 0)", x.became(64, 0), 0);
        due("became(64, 1)", x.became(64, 1), 0);
        due("became(64, 2)", x.became(64, 2), 3);
    }

    private static void whatReportsTell() {
        Kit.about("7, a report 1, 1 .. 1, 4, 1, 7, 1, 8 tells it, whatever it was, and its code (0 without)");
        int[][] rows = {{1, 5, 0}, {2, 6, 77}, {3, 7, 0}, {4, 8, 77}, {7, 9, 0}, {8, 10, 77}};
        for (int[] row : rows) {
            CraftHouse x = built(2);
            alone(x, 0, told(row[0], Kit.two(1), b(77)));
            due("1, " + row[0], x.became(1, 0), row[1]);
            due("1, " + row[0] + ": code", x.became(1, 1), row[2]);
            due("the other", x.became(0, 0), 0);
            // whatever it was: one of another kind, then this one again
            alone(x, 1, told(row[0] == 8 ? 7 : 8, Kit.two(1), b(5)));
            alone(x, 2, told(row[0], Kit.two(1), b(77)));
            due("1, " + row[0] + " again", x.became(1, 0), row[1]);
            due("1, " + row[0] + " again: code", x.became(1, 1), row[2]);
        }
    }

    private static void reportsThatTellNothing() {
        Kit.about("7, a report 1, x: of no other subtypes, of no other services");
        for (int subtype : new int[] {0, 5, 6, 9, 10, 255}) {
            CraftHouse x = built(1);
            alone(x, 0, told(subtype, Kit.two(0), b(77)));
            due("1, " + subtype, x.became(0, 0), 0);
            due("1, " + subtype + ": code", x.became(0, 1), 0);
        }
        for (int service : new int[] {0, 2, 17, 255}) {
            CraftHouse x = built(1);
            alone(x, 0, Kit.packetDown(0, service, 1, 1, Kit.two(0)));
            due(service + ", 1", x.became(0, 0), 0);
        }
    }

    private static void reportsOfFewBytes() {
        Kit.about("7, with at least as many bytes of DATA as told");
        int[][] rows = {{1, 2}, {2, 3}, {3, 2}, {4, 3}, {7, 2}, {8, 3}};
        for (int[] row : rows) {
            for (int n = 0; n <= 5; n++) {
                CraftHouse x = built(1);
                alone(x, 0, told(row[0], new byte[n]));
                due("1, " + row[0] + " of " + n, x.became(0, 0) != 0 ? 1 : 0, n >= row[1] ? 1 : 0);
                due("it is ARCHIVED all the same", x.came(5), 1);
            }
        }
    }

    private static void reportsOfOneByte() {
        Kit.about("7, with at least as many bytes of DATA as told: CHECK is none of them");
        // one byte of DATA, and CHECK behind it looks like the rest of a COUNT that is kept
        int looked = 0;
        for (int tick = 0; tick < 40; tick++) {
            for (int subtype : new int[] {1, 2, 3, 4, 7, 8}) {
                byte[] packet = Kit.packetDown(0, 1, subtype, tick, b(0));
                int count = packet[packet.length - 2] & 255;
                if (count < 64) {
                    CraftHouse x = built(64);
                    alone(x, 0, packet);
                    due("1, " + subtype + ": became(" + count + ", 0)", x.became(count, 0), 0);
                    due("ARCHIVED", x.came(5), 1);
                    looked++;
                }
            }
        }
        due("there are such", looked > 10 ? 1 : 0, 1);
    }

    private static void reportsOfACount() {
        Kit.about("7, bytes 2, 3, the lowest 14 bits; the latest with it, if it is of the 64");
        for (int high : new int[] {0x0000, 0x4000, 0x8000, 0xC000}) {
            CraftHouse x = built(66);
            alone(x, 0, told(1, Kit.two(high | 2)));
            due("the oldest of the 64", x.became(2, 0), 5);
            alone(x, 1, told(1, Kit.two(high | 65)));
            due("the latest", x.became(65, 0), 5);
            alone(x, 2, told(1, Kit.two(high | 1)));
            alone(x, 3, told(1, Kit.two(high | 66)));
            alone(x, 4, told(1, Kit.two(high | 0x3FFF)));
            alone(x, 5, told(1, Kit.two(high | 0x2000)));
            for (int i = 3; i < 65; i++) {
                due("no other: became(" + i + ", 0)", x.became(i, 0), 0);
            }
        }
        CraftHouse none = new CraftHouse();
        for (int count : new int[] {0, 63, 64, 0x3FFF}) {
            alone(none, count & 255, told(1, Kit.two(count)));
        }
        due("there are no requests", none.requests(), 0);
        none.build(17, 1, 0);
        due("the first one is BUILT", none.became(0, 0), 0);
    }

    private static void reportsOfBothChannels() {
        Kit.about("7, a packet that came whole (of both channels)");
        CraftHouse x = built(1);
        down(x, 1, 0, 0, Kit.join(told(7, Kit.two(0)), idle(35)));
        due("of STORED", x.became(0, 0), 9);
        due("its channel", x.archived(0, 0), 1);
    }

    // ---- packets

    private static void idlePacketsAreNothing() {
        Kit.about("7, nothing if it begins with 07 FF");
        CraftHouse x = new CraftHouse();
        down(x, 0, 0, 0, Kit.join(Kit.hex("07FF0000000000"), Kit.hex("07FFFFFF0001FFFF"), idle(37)));
        due("ARCHIVED", x.came(5), 0);
        due("BAD ones", x.came(6), 0);
        for (byte[] head : new byte[][] {Kit.hex("07FE"), Kit.hex("06FF"), Kit.hex("0FFF")}) {
            CraftHouse y = new CraftHouse();
            down(y, 0, 0, 0, Kit.join(head, Kit.hex("C000000000"), idle(45)));
            due("another head: BAD ones", y.came(6), 1);
        }
    }

    private static void packetsOfFewBytes() {
        Kit.about("7, BAD if it has fewer than 15 bytes");
        CraftHouse seven = new CraftHouse();
        alone(seven, 0, Kit.hex("080CC000000000"));
        due("7 bytes: BAD ones", seven.came(6), 1);
        for (int n = 8; n <= 16; n++) {
            byte[] row = Kit.filled(Kit.join(Kit.hex("080CC000"), Kit.two(n - 7), Kit.hex("201102")), 14, 0);
            CraftHouse x = new CraftHouse();
            alone(x, 0, Kit.checked(Arrays.copyOf(row, n - 2)));
            due(n + " bytes: ARCHIVED", x.came(5), n >= 15 ? 1 : 0);
            due(n + " bytes: BAD ones", x.came(6), n >= 15 ? 0 : 1);
        }
    }

    /** A packet comes in as many frames of LIVE as it takes. */
    private static void inFrames(CraftHouse x, byte[] packet) {
        int frames = packet.length / 52 + 1;
        byte[] row = Kit.join(packet, idle(Math.max(7, 52 * frames - packet.length)));
        for (int i = 0; i < frames; i++) {
            down(x, 0, i, 0, Kit.filled(Arrays.copyOfRange(row, 52 * i, Math.min(52 * i + 52, row.length)), 52, 0));
        }
    }

    private static void packetsOfManyBytes() {
        Kit.about("7, BAD if it has more than 120");
        for (int n : new int[] {119, 120, 121, 122, 140, 199, 200}) {
            CraftHouse x = new CraftHouse();
            inFrames(x, Kit.packetDown(5, 17, 2, 3, Kit.filled(NOTHING, n - 15, 0xAB)));
            due(n + " bytes: ARCHIVED", x.came(5), n <= 120 ? 1 : 0);
            due(n + " bytes: BAD ones", x.came(6), n <= 120 ? 0 : 1);
            due(n + " bytes: archived(0, 5)", x.archived(0, 5), n <= 120 ? n : BAD);
            due(n + " bytes: its last of DATA", x.archivedByte(0, n - 3), n <= 120 ? 0xAB : BAD);
            due(n + " bytes: none behind", x.archivedByte(0, n), BAD);
        }
    }

    private static void packetsWithAnotherHead() {
        Kit.about("7, BAD if it does not begin with 08 0C, has not C0 in front of its COUNT, not 20 ahead of its service");
        byte[] fine = Kit.packetDown(0x1555, 17, 2, 3, b(1, 2));
        for (int bit = 0; bit < 8 * 9; bit++) {
            int place = bit / 8;
            byte[] other = changed(fine, place, fine[place] ^ 0x80 >> bit % 8);
            boolean fixed = bit < 18 || place == 6;
            if (place != 4 && place != 5) {
                CraftHouse x = new CraftHouse();
                alone(x, 0, other);
                due("bit " + bit + ": ARCHIVED", x.came(5), fixed ? 0 : 1);
                due("bit " + bit + ": BAD ones", x.came(6), fixed ? 1 : 0);
            }
        }
    }

    private static void packetsWithAnotherCheck() {
        Kit.about("7, BAD if another CHECK: counted, and nothing else");
        byte[] fine = Kit.packetDown(5, 20, 2, 3, Kit.join(b(1, 0), Kit.four(9)));
        for (int bit = 48; bit < 8 * fine.length; bit++) {
            byte[] other = fine.clone();
            other[bit / 8] ^= (byte) (0x80 >> bit % 8);
            CraftHouse x = new CraftHouse();
            alone(x, 0, other);
            due("bit " + bit + ": ARCHIVED", x.came(5), 0);
            due("bit " + bit + ": BAD ones", x.came(6), 1);
            due("bit " + bit + ": shown(0, 0)", x.shown(0, 0), 0);
        }
    }

    private static void missingOnes() {
        Kit.about("7, of LIVE: its COUNT is not one more: that many less one (14 bits) are MISSING (not for the first)");
        int[][] rows = {{0, 1, 0}, {0, 2, 1}, {0, 0, 16383}, {16383, 0, 0}, {16383, 1, 1}, {16382, 0, 1}, {5, 4, 16382},
            {0, 16383, 16382}, {8191, 8192, 0}, {9999, 10009, 9}};
        for (int[] row : rows) {
            CraftHouse x = new CraftHouse();
            alone(x, 0, Kit.packetDown(row[0], 17, 2, 1, NOTHING));
            due("the first, COUNT " + row[0] + ": MISSING", x.came(7), 0);
            alone(x, 1, Kit.packetDown(row[1], 17, 2, 1, NOTHING));
            due("COUNT " + row[0] + ", " + row[1] + ": MISSING", x.came(7), row[2]);
        }
    }

    private static void missingOnesOfLiveOnly() {
        Kit.about("7, of LIVE: those of STORED, and BAD ones, count for nothing");
        CraftHouse x = new CraftHouse();
        down(x, 1, 0, 0, Kit.join(Kit.packetDown(77, 17, 2, 1, NOTHING), idle(37)));
        alone(x, 0, Kit.packetDown(5, 17, 2, 1, NOTHING));
        down(x, 1, 1, 0, Kit.join(Kit.packetDown(99, 17, 2, 1, NOTHING), idle(37)));
        alone(x, 1, changed(Kit.packetDown(6, 17, 2, 1, NOTHING), 6, 0x21));
        due("MISSING", x.came(7), 0);
        alone(x, 2, Kit.packetDown(7, 17, 2, 1, NOTHING));
        due("MISSING", x.came(7), 1);
        due("ARCHIVED", x.came(5), 4);
    }

    // ---- the archive

    private static void theLatestForty() {
        Kit.about("7, ARCHIVED (the latest 40 are kept)");
        for (int n : new int[] {0, 1, 39, 40, 41, 43}) {
            CraftHouse x = new CraftHouse();
            // three packets in a frame, so that an object's calls are enough
            for (int i = 0; i < n; i += 3) {
                byte[] row = NOTHING;
                for (int k = i; k < Math.min(i + 3, n); k++) {
                    row = Kit.join(row, Kit.packetDown(k, 4, k, 1000 + k, NOTHING));
                }
                down(x, 0, i / 3, 0, Kit.join(row, idle(52 - row.length)));
            }
            int kept = Math.min(n, 40);
            due(n + ": in all", x.came(5), n);
            due(n + ": one too old", x.archived(kept, 2), BAD);
            due(n + ": one too old", x.archivedByte(kept, 8), BAD);
            if (n > 0) {
                due(n + ": the newest", x.archived(0, 2), n - 1);
                due(n + ": the oldest", x.archived(kept - 1, 2), n - kept);
                due(n + ": the oldest", x.archivedByte(kept - 1, 8), n - kept);
                due(n + ": the oldest, TICK", x.archived(kept - 1, 3), 1000 + n - kept);
            }
        }
    }

    private static void theLatestFortyOfAllSizes() {
        Kit.about("7, ARCHIVED (the latest 40 are kept), of different sizes");
        CraftHouse x = new CraftHouse();
        int n = 46;
        int frame = 0;
        byte[] row = NOTHING;
        for (int i = 0; i < n; i++) {
            byte[] next = Kit.packetDown(i, 4, i, i, Kit.filled(NOTHING, i % 3, i));
            row = Kit.join(row, next);
            if (i % 3 == 2 || i == n - 1) {
                // 15, 16 and 17 bytes are 48: four are left, so an idle packet goes on in the next frame
                row = Kit.join(row, idle(7));
                down(x, 0, frame++, 0, Arrays.copyOf(row, 52));
                row = Arrays.copyOfRange(row, 52, Math.max(52, row.length));
            }
        }
        due("in all", x.came(5) >= 40 ? 1 : 0, 1);
        int newest = x.archived(0, 2);
        for (int i = 0; i < 40; i++) {
            int which = newest - i;
            due("subtype", x.archived(i, 2), which);
            due("bytes", x.archived(i, 5), 15 + which % 3);
            due("TICK", x.archived(i, 3), which);
        }
    }

    private static void archivedHasBounds() {
        Kit.about("promise 22, BAD");
        CraftHouse x = new CraftHouse();
        due("none", x.archived(0, 0), BAD);
        alone(x, 0, Kit.packetDown(16383, 255, 254, Integer.MIN_VALUE, NOTHING));
        for (int i : new int[] {Integer.MIN_VALUE, -2, -1, 1, 2, 39, 40, Integer.MAX_VALUE}) {
            due("archived(" + i + ", 0)", x.archived(i, 0), BAD);
            due("archived(" + i + ", 5)", x.archived(i, 5), BAD);
        }
        for (int what : new int[] {Integer.MIN_VALUE, -2, -1, 6, 7, Integer.MAX_VALUE}) {
            due("archived(0, " + what + ")", x.archived(0, what), BAD);
        }
        int[] want = {0, 255, 254, Integer.MIN_VALUE, 16383, 15};
        for (int what = 0; what < 6; what++) {
            due("archived(0, " + what + ")", x.archived(0, what), want[what]);
        }
    }

    private static void archivedByteHasBounds() {
        Kit.about("promise 23, BAD");
        CraftHouse x = new CraftHouse();
        due("none", x.archivedByte(0, 0), BAD);
        byte[] first = Kit.packetDown(1, 4, 5, -1, b(255, 128));
        byte[] second = Kit.packetDown(2, 4, 5, 6, NOTHING);
        alone(x, 0, first);
        alone(x, 1, second);
        for (int i : new int[] {Integer.MIN_VALUE, -1, 2, 40, Integer.MAX_VALUE}) {
            due("archivedByte(" + i + ", 0)", x.archivedByte(i, 0), BAD);
        }
        for (int k : new int[] {Integer.MIN_VALUE, -1, 15, 16, 17, Integer.MAX_VALUE}) {
            due("archivedByte(0, " + k + ")", x.archivedByte(0, k), BAD);
        }
        for (int k : new int[] {Integer.MIN_VALUE, -1, 17, 18, Integer.MAX_VALUE}) {
            due("archivedByte(1, " + k + ")", x.archivedByte(1, k), BAD);
        }
        for (int k = 0; k < 17; k++) {
            due("archivedByte(1, " + k + ")", x.archivedByte(1, k), first[k] & 255);
            due("archivedByte(0, " + k + ")", x.archivedByte(0, k), k < 15 ? second[k] & 255 : BAD);
        }
    }

    // ---- values shown

    private static void dueShown(String when, CraftHouse x, int p, int there, int value, int tick) {
        due(when + ": shown(" + p + ", 0)", x.shown(p, 0), there);
        due(when + ": shown(" + p + ", 1)", x.shown(p, 1), value);
        due(when + ": shown(" + p + ", 2)", x.shown(p, 2), tick);
    }

    /** A report with one value: 20, 2 or 3, 25. */
    private static byte[] value(boolean structure, int tick, int p, int v) {
        byte[] pair = Kit.join(b(1, p), Kit.four(v));
        return structure ? Kit.packetDown(0, 3, 25, tick, Kit.join(b(0), pair)) : Kit.packetDown(0, 20, 2, tick, pair);
    }

    private static void shownHasBounds() {
        Kit.about("promise 24, 0 without; BAD: 0");
        CraftHouse x = new CraftHouse();
        for (int p : new int[] {0, 23}) {
            dueShown("none yet", x, p, 0, 0, 0);
        }
        alone(x, 0, value(false, 5, 0, 6));
        alone(x, 1, value(false, 5, 23, 6));
        for (int p : new int[] {Integer.MIN_VALUE, -1, 24, 25, Integer.MAX_VALUE}) {
            dueShown("no such p", x, p, 0, 0, 0);
        }
        for (int what : new int[] {Integer.MIN_VALUE, -1, 3, 4, Integer.MAX_VALUE}) {
            due("shown(0, " + what + ")", x.shown(0, what), 0);
            due("shown(23, " + what + ")", x.shown(23, what), 0);
        }
        dueShown("p 0", x, 0, 1, 6, 5);
        dueShown("p 23", x, 23, 1, 6, 5);
        dueShown("p 22", x, 22, 0, 0, 0);
    }

    private static void shownBelowTwentyFour() {
        Kit.about("7, SHOWN: of each p (below 24)");
        for (boolean structure : new boolean[] {false, true}) {
            CraftHouse x = new CraftHouse();
            byte[] all = b(4, 24, 0, 0, 0, 1, 23, 0, 0, 0, 2, 255, 0, 0, 0, 3, 0, 0, 0, 0, 4);
            alone(x, 0, structure ? Kit.packetDown(0, 3, 25, 9, Kit.join(b(7), all)) : Kit.packetDown(0, 20, 2, 9, all));
            dueShown("p 23", x, 23, 1, 2, 9);
            dueShown("p 0, behind such that are none", x, 0, 1, 4, 9);
            dueShown("p 1", x, 1, 0, 0, 0);
        }
    }

    private static void shownOfWhichItHasAll() {
        Kit.about("7, SHOWN: of which it has all");
        for (boolean structure : new boolean[] {false, true}) {
            for (int bytes = 0; bytes <= 11; bytes++) {
                CraftHouse x = new CraftHouse();
                byte[] pairs = Arrays.copyOf(b(2, 1, 0, 0, 0, 7, 2, 0, 0, 0, 8), bytes);
                byte[] data = structure ? Kit.join(b(0), pairs) : pairs;
                alone(x, 0, Kit.packetDown(0, structure ? 3 : 20, structure ? 25 : 2, 9, data));
                due(bytes + " bytes: ARCHIVED", x.came(5), 1);
                dueShown(bytes + " bytes", x, 1, bytes >= 6 ? 1 : 0, bytes >= 6 ? 7 : 0, bytes >= 6 ? 9 : 0);
                dueShown(bytes + " bytes", x, 2, bytes >= 11 ? 1 : 0, bytes >= 11 ? 8 : 0, bytes >= 11 ? 9 : 0);
            }
            CraftHouse none = new CraftHouse();
            alone(none, 0, Kit.packetDown(0, structure ? 3 : 20, structure ? 25 : 2, 9, NOTHING));
            due("no DATA: ARCHIVED", none.came(5), 1);
            for (int p = 0; p < 24; p++) {
                due("no DATA: shown(" + p + ", 0)", none.shown(p, 0), 0);
            }
        }
    }

    private static void shownAsManyAsN() {
        Kit.about("7, SHOWN: n x (p, value 4): as many as n, and no more");
        for (int n : new int[] {0, 1, 2, 3, 255}) {
            CraftHouse x = new CraftHouse();
            alone(x, 0, Kit.packetDown(0, 20, 2, 9, b(n, 1, 0, 0, 0, 7, 2, 0, 0, 0, 8)));
            due("n " + n + ": the first", x.shown(1, 0), n >= 1 ? 1 : 0);
            due("n " + n + ": the second", x.shown(2, 0), n >= 2 ? 1 : 0);
        }
    }

    private static void shownByTick() {
        Kit.about("7, SHOWN: value and TICK, if the TICK is not below that of the value it has");
        int[][] rows = {{5, 5, 1}, {5, 6, 1}, {5, 4, 0}, {0, 0, 1}, {0, -1, 0}, {-1, 0, 1}, {Integer.MAX_VALUE, 0, 0},
            {Integer.MIN_VALUE, -1, 1}, {1, 0, 0}};
        for (boolean structure : new boolean[] {false, true}) {
            for (int[] row : rows) {
                CraftHouse x = new CraftHouse();
                alone(x, 0, value(structure, row[0], 9, 111));
                dueShown("the first, TICK " + row[0], x, 9, 1, 111, row[0]);
                alone(x, 1, value(!structure, row[1], 9, 222));
                boolean newer = row[2] == 1;
                dueShown("TICK " + row[0] + ", " + row[1], x, 9, 1, newer ? 222 : 111, newer ? row[1] : row[0]);
            }
        }
    }

    private static void shownOfThoseKindsOnly() {
        Kit.about("7, SHOWN: 20, 2 and 3, 25");
        byte[] data = b(1, 1, 0, 0, 0, 7);
        int[][] others = {{20, 1}, {20, 3}, {2, 20}, {3, 2}, {3, 24}, {3, 26}, {25, 3}, {19, 2}, {21, 2}, {4, 25}};
        for (int[] other : others) {
            CraftHouse x = new CraftHouse();
            alone(x, 0, Kit.packetDown(0, other[0], other[1], 9, data));
            alone(x, 1, Kit.packetDown(1, other[0], other[1], 9, Kit.join(b(0), data)));
            due(other[0] + ", " + other[1], x.shown(1, 0), 0);
            due("ARCHIVED", x.came(5), 2);
        }
        CraftHouse stored = new CraftHouse();
        down(stored, 1, 0, 0, Kit.join(value(false, 3, 1, 7), idle(31)));
        dueShown("of STORED", stored, 1, 1, 7, 3);
    }
}
