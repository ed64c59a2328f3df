import java.util.Arrays;
import java.util.Comparator;

/** Boundary cases, a test for each sentence that names one: part 6 SERVICES 12, 11, 15; promises 31, 33, 34. */
public final class OnBoardBoundsTest extends Trip {
    private static final int LATEST = Integer.MAX_VALUE;

    private OnBoardBoundsTest() {
    }

    public static void main(String[] args) throws Exception {
        Kit.runAll(OnBoardBoundsTest.class);
    }

    // ---- 12 and promise 31

    private static void watchesDefined() {
        Kit.about("6, 12, 5: 10; 14; 17 no such m (0 to 5), or it is there; 18 low above high, times 0");
        CraftHouse x = new CraftHouse();
        dueDone("p 24 is first", 10, x, 12, 5, watch(6, 24, 1, 0, 0, 32));
        dueDone("p 255", 10, x, 12, 5, watch(0, 255, 0, 0, 1, 0));
        dueDone("event 32 is next", 14, x, 12, 5, watch(6, 23, 1, 0, 0, 32));
        dueDone("event 255", 14, x, 12, 5, watch(0, 0, 0, 0, 1, 255));
        dueDone("m 6 is next", 17, x, 12, 5, watch(6, 23, 1, 0, 0, 31));
        dueDone("m 255", 17, x, 12, 5, watch(255, 0, 0, 0, 1, 0));
        dueDone("low above high", 18, x, 12, 5, watch(5, 23, 1, 0, 1, 31));
        dueDone("times 0", 18, x, 12, 5, watch(5, 23, 0, 0, 0, 31));
        due("watch(5, 0)", x.watch(5, 0), 0);
        dueDone("m 5, p 23, event 31", 0, x, 12, 5, watch(5, 23, 0, 0, 1, 31));
        dueWatch(x, 5, 1, 23, 0, 0, 1, 31, 0, BAD);
        dueDone("it is there", 17, x, 12, 5, watch(5, 0, 1, 0, 0, 0));
        dueDone("m 0, p 0, event 0", 0, x, 12, 5, watch(0, 0, 0, 0, 255, 0));
        dueWatch(x, 0, 1, 0, 0, 0, 255, 0, 0, BAD);
    }

    private static void watchesWithRanges() {
        Kit.about("6, 12, 5: 18 low above high (4 bytes with sign)");
        int[][] rows = {{0, 0, 0}, {1, 0, 18}, {0, 1, 0}, {-1, 0, 0}, {0, -1, 18}, {Integer.MIN_VALUE, Integer.MAX_VALUE, 0},
            {Integer.MAX_VALUE, Integer.MIN_VALUE, 18}, {Integer.MIN_VALUE, Integer.MIN_VALUE, 0},
            {Integer.MAX_VALUE, Integer.MAX_VALUE, 0}, {256, 255, 18}, {0x01000000, 0x00FFFFFF, 18}};
        for (int[] row : rows) {
            CraftHouse x = new CraftHouse();
            dueDone(row[0] + " .. " + row[1], row[2], x, 12, 5, watch(1, 1, row[0], row[1], 1, 1));
            due("it is there", x.watch(1, 0), row[2] == 0 ? 1 : 0);
            due("low", x.watch(1, 2), row[2] == 0 ? row[0] : BAD);
            due("high", x.watch(1, 3), row[2] == 0 ? row[1] : BAD);
        }
    }

    private static void watchesWithOtherData() {
        Kit.about("6, 12: DATA of as many bytes as told");
        CraftHouse x = new CraftHouse();
        byte[] row = watch(0, 0, 0, 0, 1, 0);
        dueDone("a byte too few", 6, x, 12, 5, Arrays.copyOf(row, 11));
        dueDone("a byte too many", 6, x, 12, 5, Arrays.copyOf(row, 13));
        for (int subtype : new int[] {1, 2, 6}) {
            dueDone("no m", 6, x, 12, subtype);
            dueDone("two m", 6, x, 12, subtype, b(0, 0));
        }
        dueDone("a byte", 6, x, 12, 13, b(0));
    }

    private static void watchesThatAreNotThere() {
        Kit.about("6, 12, 6, 12, 1, 12, 2: 17 not there");
        for (int subtype : new int[] {1, 2, 6}) {
            CraftHouse x = new CraftHouse();
            dueDone("m 4", 0, x, 12, 5, watch(4, 0, 0, 0, 1, 0));
            for (int m : new int[] {0, 3, 5, 6, 7, 255}) {
                dueDone("m " + m, 17, x, 12, subtype, b(m));
            }
            dueDone("m 4", 0, x, 12, subtype, b(4));
        }
    }

    private static void watchesThatGo() {
        Kit.about("6, 12, 6: 17 not there, or on: gone");
        for (int value : new int[] {-1, 0, 1}) {
            CraftHouse x = new CraftHouse();
            act(x, 12, 5, watch(2, 1, 0, 0, 2, 0));
            x.sense(1, value);
            act(x, 12, 1, b(2));
            due("UNCHECKED", x.watch(2, 0), 2);
            dueDone("on", 17, x, 12, 6, b(2));
            x.tick(2);
            due("state", x.watch(2, 0), value == 0 ? 3 : value < 0 ? 4 : 5);
            dueDone("on", 17, x, 12, 6, b(2));
            act(x, 12, 2, b(2));
            dueDone("off", 0, x, 12, 6, b(2));
            dueWatch(x, 2, 0, BAD, BAD, BAD, BAD, BAD, BAD);
            dueDone("gone", 17, x, 12, 6, b(2));
            dueDone("anew", 0, x, 12, 5, watch(2, 9, 1, 2, 3, 4));
            dueWatch(x, 2, 1, 9, 1, 2, 3, 4, 0);
        }
    }

    private static void watchesOnAndOff() {
        Kit.about("6, 12, 1, 12, 2: on (UNCHECKED, its row 0), off (its row 0)");
        CraftHouse x = new CraftHouse();
        act(x, 12, 5, watch(0, 1, 0, 0, 1, 0));
        act(x, 12, 1, b(0));
        dueWatch(x, 0, 2, 1, 0, 0, 1, 0, 0);
        x.tick(3);
        dueWatch(x, 0, 3, 1, 0, 0, 1, 0, 3);
        act(x, 12, 1, b(0));
        dueWatch(x, 0, 2, 1, 0, 0, 1, 0, 0);
        x.tick(1);
        dueWatch(x, 0, 3, 1, 0, 0, 1, 0, 1);
        act(x, 12, 2, b(0));
        dueWatch(x, 0, 1, 1, 0, 0, 1, 0, 0);
        x.tick(2);
        dueWatch(x, 0, 1, 1, 0, 0, 1, 0, 0);
    }

    private static void watchesLookFirst() {
        Kit.about("6, each tick a WATCH: the same as the tick before: its row one more, else 1 (also with the first look)");
        CraftHouse x = new CraftHouse();
        act(x, 12, 5, watch(0, 1, 0, 0, 3, 0));
        act(x, 12, 1, b(0));
        x.tick(2);
        dueWatch(x, 0, 2, 1, 0, 0, 3, 0, 2);
        // off and on: what it saw before does not count
        send(x, 0, 12, 2, b(0));
        act(x, 12, 1, b(0));
        dueWatch(x, 0, 2, 1, 0, 0, 3, 0, 0);
        x.tick(1);
        dueWatch(x, 0, 2, 1, 0, 0, 3, 0, 1);
        x.sense(1, 1);
        x.tick(1);
        dueWatch(x, 0, 2, 1, 0, 0, 3, 0, 1);
        x.sense(1, -1);
        x.tick(1);
        dueWatch(x, 0, 2, 1, 0, 0, 3, 0, 1);
        x.tick(1);
        dueWatch(x, 0, 2, 1, 0, 0, 3, 0, 2);
        x.tick(1);
        dueWatch(x, 0, 4, 1, 0, 0, 3, 0, 3);
    }

    private static void watchesAtTheirBounds() {
        Kit.about("6, each tick a WATCH: IN (low .. high), LOW or HIGH");
        int[][] rows = {{-4, 4, -5, 4}, {-4, 4, -4, 3}, {-4, 4, 4, 3}, {-4, 4, 5, 5}, {0, 0, 0, 3}, {0, 0, -1, 4}, {0, 0, 1, 5},
            {-4, 4, Integer.MIN_VALUE, 4}, {-4, 4, Integer.MAX_VALUE, 5}, {Integer.MIN_VALUE, -1, Integer.MIN_VALUE, 3},
            {0, Integer.MAX_VALUE, Integer.MAX_VALUE, 3}, {0, Integer.MAX_VALUE, -1, 4},
            {Integer.MIN_VALUE, Integer.MAX_VALUE, 0, 3}};
        for (int[] row : rows) {
            CraftHouse x = new CraftHouse();
            act(x, 12, 5, watch(3, 15, row[0], row[1], 1, 31));
            x.sense(15, row[2]);
            act(x, 12, 1, b(3));
            x.lose(1, 64000);
            x.tick(1);
            String when = row[2] + " in " + row[0] + " .. " + row[1];
            due(when + ": state", x.watch(3, 0), row[3]);
            due(when + ": events", x.parameter(22), row[3] == 3 ? 0 : 1);
            x.tick(1);
            x.carry(1, 64000);
            dueReport(when, x, 12, 12, Kit.join(b(3, 15), Kit.four(row[2]), b(2, row[3])));
            due(when + ": 5, 4", newest(x, 5, 4) >= 0 ? 1 : 0, row[3] == 3 ? 0 : 1);
            if (row[3] != 3) {
                dueReport(when, x, 5, 4, Kit.join(b(31), Kit.four(row[2])));
            }
        }
    }

    private static void watchesWithTimes() {
        Kit.about("6, each tick a WATCH: when the row is times or more, and it has another state; row 255 at most");
        for (int times : new int[] {1, 2, 254, 255}) {
            CraftHouse x = new CraftHouse();
            act(x, 12, 5, watch(0, 1, 0, 0, times, 0));
            x.sense(1, 1);
            act(x, 12, 1, b(0));
            for (int left = times - 1; left > 0; left -= Math.min(left, 200)) {
                x.tick(Math.min(left, 200));
            }
            dueWatch(x, 0, 2, 1, 0, 0, times, 0, times - 1);
            due("packets made", x.craft(14), 0);
            x.tick(1);
            dueWatch(x, 0, 5, 1, 0, 0, times, 0, times);
            due("packets made", x.craft(14), 2);
            x.tick(200);
            x.tick(60);
            dueWatch(x, 0, 5, 1, 0, 0, times, 0, 255);
            due("packets made", x.craft(14), 2);
        }
    }

    private static void watchesChangeTheirState() {
        Kit.about("6, report 12, 12: m, p, value 4, the old state, the new one; if it is LOW or HIGH: EVENT");
        CraftHouse x = new CraftHouse();
        act(x, 12, 5, watch(5, 0, 0, 9, 1, 9));
        act(x, 12, 1, b(5));
        int[] values = {5, -1, 10, 3, 99};
        int[] states = {3, 4, 5, 3, 5};
        int old = 2;
        int events = 0;
        for (int i = 0; i < values.length; i++) {
            x.sense(0, values[i]);
            x.tick(2);
            x.carry(1, 64000);
            dueReport("value " + values[i], x, 12, 12, Kit.join(b(5, 0), Kit.four(values[i]), b(old, states[i])));
            old = states[i];
            events += old == 3 ? 0 : 1;
            due("events", x.parameter(22), events);
        }
    }

    private static void watchesReported() {
        Kit.about("6, 12, 13: six bytes: 0 not there, 1 off, 2 UNCHECKED, 3 IN, 4 LOW, 5 HIGH");
        CraftHouse x = new CraftHouse();
        dueDone("none", 0, x, 12, 13);
        dueReport("none", x, 12, 14, new byte[6]);
        for (int m = 1; m <= 5; m++) {
            send(x, 0, 12, 5, watch(m, m, 0, 0, m == 2 ? 255 : 1, 0));
        }
        x.tick(2);
        x.sense(4, -1);
        x.sense(5, 1);
        for (int m = 2; m <= 5; m++) {
            send(x, 0, 12, 1, b(m));
        }
        x.tick(2);
        dueDone("all", 0, x, 12, 13);
        dueReport("all", x, 12, 14, b(0, 1, 2, 3, 4, 5));
        for (int m = 0; m < 6; m++) {
            due("watch(" + m + ", 0)", x.watch(m, 0), m);
        }
    }

    private static void watchesInOrder() {
        Kit.about("6, EACH TICK: WATCHES in order");
        CraftHouse x = new CraftHouse();
        send(x, 0, 12, 5, watch(5, 1, 1, 1, 1, 5));
        send(x, 0, 12, 5, watch(0, 1, 1, 1, 1, 0));
        send(x, 0, 12, 1, b(5));
        send(x, 0, 12, 1, b(0));
        x.tick(1);
        x.lose(1, 64000);
        x.tick(3);
        x.carry(1, 64000);
        dueKinds("in order", x, 12, 12, 5, 1, 12, 12, 5, 1);
        due("the first, m", x.archivedByte(3, 13), 0);
        due("the second, m", x.archivedByte(1, 13), 5);
    }

    private static void watchHasBounds() {
        Kit.about("promise 31, BAD: also of one that is not there, but 0");
        CraftHouse x = new CraftHouse();
        act(x, 12, 5, watch(5, 1, 2, 3, 4, 5));
        for (int m : new int[] {Integer.MIN_VALUE, -1, 6, 7, Integer.MAX_VALUE}) {
            due("watch(" + m + ", 0)", x.watch(m, 0), BAD);
            due("watch(" + m + ", 1)", x.watch(m, 1), BAD);
        }
        for (int what : new int[] {Integer.MIN_VALUE, -1, 7, 8, Integer.MAX_VALUE}) {
            due("watch(5, " + what + ")", x.watch(5, what), BAD);
            due("watch(0, " + what + ")", x.watch(0, what), BAD);
        }
        dueWatch(x, 5, 1, 1, 2, 3, 4, 5, 0, BAD);
        dueWatch(x, 0, 0, BAD, BAD, BAD, BAD, BAD, BAD, BAD);
        dueWatch(x, 4, 0, BAD, BAD, BAD, BAD, BAD, BAD, BAD);
    }

    // ---- 11 and promise 33

    private static void scheduleOnOffEmpty() {
        Kit.about("6, 11, 1, 11, 2, 11, 3: the SCHEDULE is on (at first off), off, empty");
        CraftHouse x = new CraftHouse();
        due("at first", x.entry(NONE, 1), 0);
        for (int i = 0; i < 2; i++) {
            dueDone("on", 0, x, 11, 1);
            due("on", x.entry(NONE, 1), 1);
        }
        dueDone("an entry", 0, x, 11, 4, b(0), Kit.four(500), TEST);
        for (int i = 0; i < 2; i++) {
            dueDone("empty", 0, x, 11, 3);
            due("entries", x.entry(NONE, 0), 0);
            due("on as it was", x.entry(NONE, 1), 1);
        }
        for (int i = 0; i < 2; i++) {
            dueDone("off", 0, x, 11, 2);
            due("off", x.entry(NONE, 1), 0);
        }
        for (int subtype : new int[] {1, 2, 3, 16}) {
            dueDone("a byte", 6, x, 11, subtype, b(0));
        }
    }

    private static void groupsThatAre() {
        Kit.about("6, 11, 4, 11, 20, 11, 21: 20 no such group (0 to 3)");
        CraftHouse x = new CraftHouse();
        for (int group : new int[] {0, 3}) {
            dueDone("group " + group + " off", 0, x, 11, 21, b(group));
            due("group " + group, x.entry(NONE, 2 + group), 0);
            dueDone("an entry", 0, x, 11, 4, b(group), Kit.four(500), TEST);
        }
        due("group 1", x.entry(NONE, 3), 1);
        due("group 2", x.entry(NONE, 4), 1);
        for (int group : new int[] {4, 5, 255}) {
            dueDone("group " + group, 20, x, 11, 20, b(group));
            dueDone("group " + group, 20, x, 11, 21, b(group));
            dueDone("group " + group + ", time 0", 20, x, 11, 4, b(group), Kit.four(0), TEST);
        }
        for (int group : new int[] {0, 3}) {
            dueDone("group " + group + " on", 0, x, 11, 20, b(group));
            due("group " + group, x.entry(NONE, 2 + group), 1);
        }
        dueDone("no group", 6, x, 11, 20);
        dueDone("two groups", 6, x, 11, 21, b(0, 0));
    }

    private static void entriesInTime() {
        Kit.about("6, 11, 4: 21 time is not above the TICK + 1");
        // the request is done in the tick 1
        int[][] rows = {{Integer.MIN_VALUE, 21}, {-1, 21}, {0, 21}, {1, 21}, {2, 21}, {3, 0}, {4, 0}, {LATEST, 0}};
        for (int[] row : rows) {
            CraftHouse x = new CraftHouse();
            ask(x, 11, 4, b(0), Kit.four(row[0]), TEST);
            x.tick(1);
            due("time " + row[0] + ": entries", x.entry(NONE, 0), row[1] == 0 ? 1 : 0);
            due("time " + row[0] + ": its time", x.entry(0, 0), row[1] == 0 ? row[0] : BAD);
            x.tick(1);
            x.carry(1, 64000);
            due("time " + row[0] + ": code", x.became(0, 1), row[1]);
        }
    }

    private static void entriesOfPackets() {
        Kit.about("6, 11, 4: a packet of 13 .. 40 bytes");
        for (int n : new int[] {0, 12, 13, 40, 41, 42}) {
            CraftHouse x = new CraftHouse();
            boolean fits = n >= 13 && n <= 40;
            dueDone(n + " bytes", fits ? 0 : 6, x, 11, 4, b(0), Kit.four(500), new byte[n]);
            due(n + " bytes: entries", x.entry(NONE, 0), fits ? 1 : 0);
            due(n + " bytes", x.entry(0, 2), fits ? n : BAD);
        }
    }

    /** A SCHEDULE with entries of 13 bytes at these times, with COUNTS from 100 on; four are made in a tick. */
    private static CraftHouse scheduled(int... times) {
        CraftHouse x = new CraftHouse();
        for (int i = 0; i < times.length; i++) {
            send(x, 0, 11, 4, b(i & 3), Kit.four(times[i]), Kit.packetUp(100 + i, 0, 17, 1, NOTHING));
            if (i % 4 == 3 || i == times.length - 1) {
                x.tick(1);
            }
        }
        due("entries", x.entry(NONE, 0), times.length);
        return x;
    }

    private static void sixteenEntries() {
        Kit.about("6, 11, 4: 22 16 entries");
        int[] times = new int[16];
        Arrays.fill(times, 900);
        CraftHouse x = scheduled(times);
        due("PARAMETER 21", x.parameter(21), 16);
        dueDone("the 17th", 22, x, 11, 4, b(0), Kit.four(901), TEST);
        dueDone("the 17th, too early", 21, x, 11, 4, b(0), Kit.four(1), TEST);
        dueDone("the 17th, group 4", 20, x, 11, 4, b(4), Kit.four(901), TEST);
        due("entries", x.entry(NONE, 0), 16);
        dueDone("one is gone", 0, x, 11, 5, Kit.two(100));
        dueDone("there is room", 0, x, 11, 4, b(0), Kit.four(901), Kit.filled(TEST, 40, 0));
        due("entries", x.entry(NONE, 0), 16);
        due("the last, time", x.entry(15, 0), 901);
        due("the last, bytes", x.entry(15, 2), 40);
        due("none behind it", x.entry(16, 0), BAD);
    }

    private static void sixteenEntriesOfManyBytes() {
        Kit.about("6, 11, 4: 16 entries, each of 40 bytes");
        CraftHouse x = new CraftHouse();
        for (int i = 0; i < 16; i++) {
            send(x, 0, 11, 4, b(0), Kit.four(900 - i), Kit.filled(TEST, 40, i));
            if (i % 4 == 3) {
                x.tick(1);
            }
        }
        due("entries", x.entry(NONE, 0), 16);
        for (int i = 0; i < 16; i++) {
            due("entry(" + i + ", 0)", x.entry(i, 0), 885 + i);
            due("entry(" + i + ", 2)", x.entry(i, 2), 40);
        }
    }

    private static void entriesByTime() {
        Kit.about("promise 33, entry i by time, of one time as they came");
        CraftHouse x = scheduled(700, 600, 700, LATEST, 600, 500);
        int[] times = {500, 600, 600, 700, 700, LATEST};
        int[] groups = {1, 1, 0, 0, 2, 3};
        for (int i = 0; i < 6; i++) {
            due("entry(" + i + ", 0)", x.entry(i, 0), times[i]);
            due("entry(" + i + ", 1)", x.entry(i, 1), groups[i]);
            due("entry(" + i + ", 2)", x.entry(i, 2), 13);
        }
    }

    private static void entryHasBounds() {
        Kit.about("promise 33, i = NONE: what = 0 .. 5; BAD");
        CraftHouse x = new CraftHouse();
        due("entry(0, 0) of none", x.entry(0, 0), BAD);
        CraftHouse y = scheduled(500);
        for (int i : new int[] {Integer.MIN_VALUE, -3, -1, 1, 2, 16, Integer.MAX_VALUE}) {
            due("entry(" + i + ", 0)", y.entry(i, 0), BAD);
        }
        for (int what : new int[] {Integer.MIN_VALUE, -2, -1, 3, 4, Integer.MAX_VALUE}) {
            due("entry(0, " + what + ")", y.entry(0, what), BAD);
        }
        for (int what : new int[] {Integer.MIN_VALUE, -2, -1, 6, 7, Integer.MAX_VALUE}) {
            due("entry(NONE, " + what + ")", y.entry(NONE, what), BAD);
        }
        int[] want = {1, 0, 1, 1, 1, 1};
        for (int what = 0; what < 6; what++) {
            due("entry(NONE, " + what + ")", y.entry(NONE, what), want[what]);
        }
    }

    private static void entriesDeletedByCount() {
        Kit.about("6, 11, 5: 23 no entry whose packet has this count; the first of these (in the order in which they go)");
        CraftHouse none = new CraftHouse();
        dueDone("no entries", 23, none, 11, 5, Kit.two(0));
        CraftHouse x = new CraftHouse();
        int[] counts = {0, 16383, 0, 0};
        int[] times = {700, 500, 600, 600};
        for (int i = 0; i < 4; i++) {
            send(x, 0, 11, 4, b(i), Kit.four(times[i]), Kit.packetUp(counts[i], 0, 17, 1, NOTHING));
        }
        x.tick(1);
        dueDone("count 1", 23, x, 11, 5, Kit.two(1));
        dueDone("count 16382", 23, x, 11, 5, Kit.two(16382));
        // a count of two bytes: of the packet's bytes the lowest 14 bits alone count
        dueDone("C000", 23, x, 11, 5, Kit.two(0xC000));
        dueDone("FFFF", 23, x, 11, 5, Kit.two(0xFFFF));
        due("entries", x.entry(NONE, 0), 4);
        dueDone("count 0", 0, x, 11, 5, Kit.two(0));
        dueGroups(x, 1, 3, 0);
        dueDone("count 0", 0, x, 11, 5, Kit.two(0));
        dueGroups(x, 1, 0);
        dueDone("count 16383", 0, x, 11, 5, Kit.two(16383));
        dueGroups(x, 0);
        dueDone("count 0", 0, x, 11, 5, Kit.two(0));
        due("entries", x.entry(NONE, 0), 0);
        dueDone("count 0", 23, x, 11, 5, Kit.two(0));
        dueDone("a byte", 6, x, 11, 5, b(0));
        dueDone("three bytes", 6, x, 11, 5, b(0, 0, 0));
    }

    private static void dueGroups(CraftHouse x, int... groups) {
        due("entries", x.entry(NONE, 0), groups.length);
        for (int i = 0; i < groups.length; i++) {
            due("the group of entry " + i, x.entry(i, 1), groups[i]);
        }
    }

    private static void entriesShiftedEarlier() {
        Kit.about("6, 11, 15: 21 an entry's time would not be above the TICK + 1");
        // made in tick 1, shifted in tick 2: 4 is the earliest time
        int[][] rows = {{-96, 0}, {-97, 21}, {-98, 21}, {Integer.MIN_VALUE, 21}, {0, 0}, {1, 0}};
        for (int[] row : rows) {
            for (int[] times : new int[][] {{100, 200}, {200, 100}, {100, 100}}) {
                CraftHouse x = scheduled(times);
                ask(x, 11, 15, Kit.four(row[0]));
                x.tick(1);
                int shift = row[1] == 0 ? row[0] : 0;
                due("shift " + row[0] + ": the first", x.entry(0, 0), 100 + shift);
                due("shift " + row[0] + ": the other", x.entry(1, 0), Math.max(times[0], times[1]) + shift);
                x.tick(1);
                x.carry(1, 64000);
                due("shift " + row[0] + ": code", x.became(2, 1), row[1]);
            }
        }
    }

    private static void entriesShiftedLater() {
        Kit.about("6, 11, 15: 21 or above 2^31 - 1");
        int[][] rows = {{LATEST - 200, 0}, {LATEST - 199, 21}, {LATEST, 21}};
        for (int[] row : rows) {
            for (int[] times : new int[][] {{100, 200}, {200, 100}}) {
                CraftHouse x = scheduled(times);
                ask(x, 11, 15, Kit.four(row[0]));
                x.tick(1);
                int shift = row[1] == 0 ? row[0] : 0;
                due("shift " + row[0] + ": the first", x.entry(0, 0), 100 + shift);
                due("shift " + row[0] + ": the other", x.entry(1, 0), 200 + shift);
                x.tick(1);
                x.carry(1, 64000);
                due("shift " + row[0] + ": code", x.became(2, 1), row[1]);
            }
        }
        CraftHouse none = new CraftHouse();
        dueDone("no entries", 0, none, 11, 15, Kit.four(LATEST));
        dueDone("no entries", 0, none, 11, 15, Kit.four(Integer.MIN_VALUE));
        dueDone("three bytes", 6, none, 11, 15, b(0, 0, 0));
        dueDone("five bytes", 6, none, 11, 15, b(0, 0, 0, 0, 0));
    }

    private static void entriesReported() {
        Kit.about("6, 11, 16: report 11, 17: n, n x (time 4, the packet's count 2), by time, as they came (8 at most)");
        for (int n : new int[] {0, 1, 7, 8, 9, 16}) {
            int[] times = new int[n];
            for (int i = 0; i < n; i++) {
                times[i] = 900 - i / 2;
            }
            CraftHouse x = scheduled(times);
            dueDone(n + " entries", 0, x, 11, 16);
            Integer[] order = new Integer[n];
            Arrays.setAll(order, i -> i);
            // a sort that keeps those of one time as they came
            Arrays.sort(order, Comparator.comparing(i -> times[i]));
            byte[] want = b(Math.min(n, 8));
            for (int i = 0; i < Math.min(n, 8); i++) {
                want = Kit.join(want, Kit.four(times[order[i]]), Kit.two(100 + order[i]));
            }
            dueReport(n + " entries", x, 11, 17, want);
        }
    }

    private static void entriesGoInTheirTick() {
        Kit.about("6, each tick: entries whose time is not above the TICK go: if the SCHEDULE and its group are on");
        for (int row = 0; row < 4; row++) {
            boolean on = (row & 1) != 0;
            boolean groupOn = (row & 2) != 0;
            CraftHouse x = new CraftHouse();
            if (on) {
                send(x, 0, 11, 1);
            }
            if (!groupOn) {
                send(x, 0, 11, 21, b(2));
            }
            send(x, 0, 11, 4, b(2), Kit.four(5), TEST);
            x.tick(4);
            int done = x.parameter(20);
            due("a tick ahead: entries", x.entry(NONE, 0), 1);
            x.tick(1);
            due("in its tick: entries", x.entry(NONE, 0), 0);
            due("on " + on + ", group " + groupOn + ": DONE", x.parameter(20), on && groupOn ? done + 1 : done);
            due("REFUSED", x.parameter(18), 0);
        }
    }

    private static void entriesGoAtTheEarliest() {
        Kit.about("6, 11, 4: a time of TICK + 2 goes in that tick");
        CraftHouse x = new CraftHouse();
        send(x, 0, 11, 1);
        send(x, 0, 11, 4, b(0), Kit.four(3), TEST);
        x.tick(2);
        due("DONE", x.parameter(20), 2);
        x.tick(1);
        due("DONE", x.parameter(20), 3);
    }

    private static void entriesGoInOrder() {
        Kit.about("6, each tick: by time, of one time as they came");
        CraftHouse x = new CraftHouse();
        int[] order = {4, 1, 3, 2};
        send(x, 0, 11, 1);
        for (int p : order) {
            send(x, 0, 11, 4, b(0), Kit.four(9), Kit.packetUp(p, 8, 17, 1, NOTHING));
        }
        x.tick(2);
        x.lose(1, 64000);
        x.tick(12);
        x.carry(1, 64000);
        // the reports 1, 1 came of all four in the tick, in the order in which they went
        for (int i = 0; i < 4; i++) {
            due("count of the one that went", x.archivedByte(7 - i, 14), order[i]);
        }
    }

    private static void entriesGoWhereverTheyStand() {
        Kit.about("6, each tick: by time, whatever was put first; 11, 5: the others stay as they are");
        CraftHouse x = new CraftHouse();
        send(x, 0, 11, 1);
        int[] times = {9, 7, 8};
        for (int i = 0; i < 3; i++) {
            byte[] sets = Kit.packetUp(i, 0, 20, 3, Kit.join(b(i == 0 ? 2 : 1, i), Kit.four(times[i]),
                i == 0 ? Kit.join(b(5), Kit.four(55)) : NOTHING));
            send(x, 0, 11, 4, b(0), Kit.four(times[i]), sets);
        }
        x.tick(6);
        due("entries", x.entry(NONE, 0), 3);
        x.tick(1);
        due("the second", x.parameter(1), 7);
        due("entries", x.entry(NONE, 0), 2);
        x.tick(1);
        due("the third", x.parameter(2), 8);
        x.tick(1);
        due("the first", x.parameter(0), 9);
        due("the first", x.parameter(5), 55);
        due("REFUSED", x.parameter(18), 0);
        CraftHouse y = new CraftHouse();
        send(y, 0, 11, 1);
        for (int i = 0; i < 3; i++) {
            byte[] row = i == 0 ? TEST : Kit.packetUp(i, 0, 20, 3, Kit.join(b(1, i), Kit.four(50 + i)));
            send(y, 0, 11, 4, b(0), Kit.four(9), row);
        }
        y.tick(2);
        act(y, 11, 5, Kit.two(0x123));
        y.tick(6);
        due("the second", y.parameter(1), 51);
        due("the third", y.parameter(2), 52);
        due("REFUSED", y.parameter(18), 0);
    }

    private static void allEntriesOfATick() {
        Kit.about("6, each tick: all 16 entries of one time go; 7 REQUESTS has 8");
        int[] times = new int[16];
        Arrays.fill(times, 50);
        CraftHouse x = scheduled(times);
        act(x, 11, 1);
        int done = x.parameter(20);
        x.tick(49 - x.tick(0));
        due("entries", x.entry(NONE, 0), 16);
        x.tick(1);
        due("entries", x.entry(NONE, 0), 0);
        due("REFUSED", x.parameter(18), 8);
        due("DONE in the tick", x.parameter(20), done + 4);
        due("REQUESTS", x.craft(6), 4);
    }

    private static void orderOfATick() {
        Kit.about("6, EACH TICK: the TICK is one more; the schedule; STRUCTURES; WATCHES; then REQUESTS; then the FRAME down");
        CraftHouse x = new CraftHouse();
        act(x, 11, 1);
        act(x, 11, 4, b(0), Kit.four(9), Kit.packetUp(5, 8, 17, 1, NOTHING));
        act(x, 3, 1, b(0), Kit.two(5), b(1, 23));
        act(x, 3, 5, b(0));
        act(x, 12, 5, watch(0, 1, 0, 0, 1, 0));
        act(x, 12, 1, b(0));
        x.tick(2);
        x.lose(1, 64000);
        x.sense(1, 5);
        x.tick(1);
        due("the FRAME has begun them", x.craft(7), 2);
        x.tick(2);
        x.carry(1, 64000);
        dueKinds("in order", x, 1, 1, 3, 25, 12, 12, 5, 1, 17, 2);
        for (int i = 0; i < 5; i++) {
            due("TICK", x.archived(i, 3), 9);
        }
        due("PARAMETER 23 in 3, 25", x.shown(23, 1), 9);
    }

    // ---- 15 and promise 34

    private static void storesThatAre() {
        Kit.about("6, 15: 24 no such s (0, 1)");
        CraftHouse x = new CraftHouse();
        byte[][] rests = {b(0), NOTHING, NOTHING, b(17, 2), Kit.join(Kit.four(0), Kit.four(0)), Kit.four(0)};
        int[] subtypes = {12, 1, 2, 3, 9, 11};
        for (int i = 0; i < subtypes.length; i++) {
            dueDone("s 2", 24, x, 15, subtypes[i], b(2), rests[i]);
            dueDone("s 255", 24, x, 15, subtypes[i], b(255), rests[i]);
            dueDone("s 1", 0, x, 15, subtypes[i], b(1), rests[i]);
        }
        CraftHouse y = new CraftHouse();
        for (int i = 0; i < subtypes.length; i++) {
            dueDone("a byte too many", 6, y, 15, subtypes[i], b(0), rests[i], b(0));
            dueDone("no s", 6, y, 15, subtypes[i]);
            dueDone("s 0", 0, y, 15, subtypes[i], b(0), rests[i]);
        }
    }

    private static void storesOfAKind() {
        Kit.about("6, 15, 12: kind (0 BOUNDED, 1 CIRCULAR): empty, of that kind (at first 0), off, nothing chosen, none lost");
        CraftHouse x = new CraftHouse();
        dueStore(x, 0, 0, 0, 0, 0, 0, 0, NONE, NONE, BAD);
        dueDone("kind 2", 6, x, 15, 12, b(0, 2));
        dueDone("kind 255", 6, x, 15, 12, b(0, 255));
        due("kind", x.store(0, 0), 0);
        for (int kind = 1; kind >= 0; kind--) {
            act(x, 15, 3, b(0, 17, 2));
            act(x, 15, 1, b(0));
            act(x, 17, 1);
            due("packets", x.store(0, 2), 1);
            dueDone("kind " + kind, 0, x, 15, 12, b(0, kind));
            dueStore(x, 0, kind, 0, 0, 0, 0, 0, NONE, NONE, BAD);
        }
    }

    private static void storesOnAndOff() {
        Kit.about("6, 15, 1, 15, 2: on (at first off), off: each packet comes to each STORE that is on");
        CraftHouse x = new CraftHouse();
        act(x, 15, 3, b(0, 17, 2));
        act(x, 15, 3, b(1, 17, 2));
        act(x, 17, 1);
        dueStore(x, 0, 0, 0, 0);
        act(x, 15, 1, b(0));
        act(x, 17, 1);
        dueStore(x, 0, 0, 1, 1, 15);
        dueStore(x, 1, 0, 0, 0, 0);
        act(x, 15, 1, b(1));
        act(x, 17, 1);
        dueStore(x, 0, 0, 1, 2, 30);
        dueStore(x, 1, 0, 1, 1, 15);
        act(x, 15, 2, b(0));
        act(x, 17, 1);
        dueStore(x, 0, 0, 0, 2, 30);
        dueStore(x, 1, 0, 1, 2, 30);
        due("none is lost", x.store(0, 4), 0);
    }

    private static void kindsThatAreChosen() {
        Kit.about("6, 15, 3: 25 six others are chosen");
        CraftHouse x = new CraftHouse();
        for (int i = 0; i < 6; i++) {
            dueDone("kind " + i, 0, x, 15, 3, b(0, 1, i));
            due("chosen", x.store(0, 5), i + 1);
            dueDone("once more", 0, x, 15, 3, b(0, 1, 0));
            due("chosen", x.store(0, 5), i + 1);
        }
        dueDone("the seventh", 25, x, 15, 3, b(0, 1, 6));
        dueDone("another service", 25, x, 15, 3, b(0, 0, 0));
        dueDone("the sixth once more", 0, x, 15, 3, b(0, 1, 5));
        due("chosen", x.store(0, 5), 6);
        due("of the other", x.store(1, 5), 0);
        dueDone("the other has room", 0, x, 15, 3, b(1, 255, 255));
    }

    private static void chosenBothWays() {
        Kit.about("6, each packet comes to a STORE that has its service and subtype chosen");
        CraftHouse x = new CraftHouse();
        act(x, 15, 3, b(0, 17, 3));
        act(x, 15, 3, b(0, 2, 17));
        act(x, 15, 3, b(1, 17, 2));
        act(x, 15, 1, b(0));
        act(x, 15, 1, b(1));
        act(x, 17, 1);
        due("neither", x.store(0, 2), 0);
        due("both", x.store(1, 2), 1);
    }

    /** STORE 0 of a kind keeps 6, 6; packets of these sizes (18 to 82 bytes) are made, one in a tick. */
    private static CraftHouse kept(int kind, int... sizes) {
        CraftHouse x = new CraftHouse();
        send(x, 0, 15, 12, b(0, kind));
        send(x, 0, 15, 3, b(0, 6, 6));
        act(x, 15, 1, b(0));
        for (int size : sizes) {
            act(x, 6, 5, Kit.two(0), b(size - 18));
        }
        return x;
    }

    private static void lostOnesStayCounted() {
        Kit.about("6, 15, 12: none lost; of all other requests none is told to change how many are lost");
        int[] sizes = new int[16];
        Arrays.fill(sizes, 80);
        CraftHouse x = kept(0, sizes);
        dueStore(x, 0, 0, 1, 15, 1200, 1, 1, 2, 16);
        act(x, 15, 2, b(0));
        dueStore(x, 0, 0, 0, 15, 1200, 1, 1, 2, 16);
        act(x, 15, 1, b(0));
        act(x, 15, 3, b(0, 1, 1));
        dueStore(x, 0, 0, 1, 15, 1200, 1, 2, 2, 16);
        act(x, 15, 9, b(0), Kit.four(0), Kit.four(9999));
        dueStore(x, 0, 0, 1, 15, 1200, 1, 2, 2, 16);
        act(x, 15, 11, b(0), Kit.four(2));
        dueStore(x, 0, 0, 1, 14, 1120, 1, 2, 3, 16);
        act(x, 15, 11, b(0), Kit.four(9999));
        dueStore(x, 0, 0, 1, 0, 0, 1, 2, NONE, NONE);
        act(x, 15, 12, b(1, 1));
        due("of the other STORE", x.store(0, 4), 1);
    }

    private static void boundedStores() {
        Kit.about("6, a STORE has 1200 bytes. BOUNDED: if it has room, else it is lost (counted)");
        // 14 of 80 are 1120
        int[] sizes = new int[15];
        Arrays.fill(sizes, 80);
        CraftHouse exact = kept(0, sizes);
        dueStore(exact, 0, 0, 1, 15, 1200, 0, 1, 2, 16);
        act(exact, 6, 5, Kit.two(0), b(1));
        dueStore(exact, 0, 0, 1, 15, 1200, 1, 1, 2, 16);
        sizes[14] = 79;
        CraftHouse oneLeft = kept(0, sizes);
        dueStore(oneLeft, 0, 0, 1, 15, 1199, 0, 1, 2, 16);
        sizes[14] = 81;
        CraftHouse over = kept(0, sizes);
        dueStore(over, 0, 0, 1, 14, 1120, 1, 1, 2, 15);
        // a smaller one finds room behind one that was lost
        act(over, 6, 5, Kit.two(0), b(62));
        dueStore(over, 0, 0, 1, 15, 1200, 1, 1, 2, 17);
        act(over, 15, 12, b(0, 0));
        dueStore(over, 0, 0, 0, 0, 0, 0, 0, NONE, NONE);
    }

    private static void circularStores() {
        Kit.about("6, CIRCULAR: the oldest go till it has room");
        int[] sizes = new int[16];
        Arrays.fill(sizes, 80);
        CraftHouse exact = kept(1, Arrays.copyOf(sizes, 15));
        dueStore(exact, 0, 1, 1, 15, 1200, 0, 1, 2, 16);
        dueStore(kept(1, sizes), 0, 1, 1, 15, 1200, 0, 1, 3, 17);
        sizes[15] = 81;
        dueStore(kept(1, sizes), 0, 1, 1, 14, 1121, 0, 1, 4, 17);
        sizes[15] = 20;
        sizes[0] = 20;
        dueStore(kept(1, sizes), 0, 1, 1, 16, 1160, 0, 1, 2, 17);
        sizes[1] = 61;
        sizes[0] = 79;
        sizes[15] = 82;
        // 79 + 61 + 13 x 80 = 1180, then 82: two go
        dueStore(kept(1, sizes), 0, 1, 1, 15, 1183, 0, 1, 3, 17);
    }

    private static void storesOfManySmallPackets() {
        Kit.about("6, a STORE has 1200 bytes: 80 packets of 15");
        for (int kind = 0; kind <= 1; kind++) {
            CraftHouse x = new CraftHouse();
            send(x, 0, 15, 12, b(0, kind));
            send(x, 0, 15, 3, b(0, 17, 2));
            act(x, 15, 1, b(0));
            for (int i = 0; i < 80; i++) {
                x.request(17, 1, 0, true);
                if (i % 4 == 3) {
                    x.carry(0, 32000);
                    x.tick(1);
                }
            }
            dueStore(x, 0, kind, 1, 80, 1200, 0, 1, 2, 21);
            act(x, 17, 1);
            dueStore(x, 0, kind, 1, 80, 1200, kind == 0 ? 1 : 0, 1, 2, kind == 0 ? 21 : 22);
        }
    }

    private static void storesWithoutOldOnes() {
        Kit.about("6, 15, 11: its packets with a TICK not above that are gone");
        // packets of the ticks 2, 3, 4
        int[][] rows = {{Integer.MIN_VALUE, 3}, {1, 3}, {2, 2}, {3, 1}, {4, 0}, {5, 0}, {LATEST, 0}};
        for (int[] row : rows) {
            CraftHouse x = kept(0, 20, 30, 40);
            dueDone("up to " + row[0], 0, x, 15, 11, b(0), Kit.four(row[0]));
            due("up to " + row[0], x.store(0, 2), row[1]);
            due("bytes", x.store(0, 3), row[1] == 3 ? 90 : row[1] == 2 ? 70 : row[1] == 1 ? 40 : 0);
            due("the oldest", x.store(0, 6), row[1] == 0 ? NONE : 5 - row[1]);
            due("the newest", x.store(0, 7), row[1] == 0 ? NONE : 4);
            due("none is lost", x.store(0, 4), 0);
        }
    }

    private static void storesPassed() {
        Kit.about("6, 15, 9: PASSED are all its packets with a TICK from .. to, in order");
        // packets of the ticks 2, 3, 4
        int[][] rows = {{2, 4, 3}, {Integer.MIN_VALUE, LATEST, 3}, {3, 3, 1}, {2, 3, 2}, {3, 4, 2}, {5, 9, 0}, {0, 1, 0}, {4, 2, 0},
            {LATEST, Integer.MIN_VALUE, 0}};
        for (int[] row : rows) {
            CraftHouse x = kept(0, 20, 30, 40);
            x.tick(5);
            x.lose(1, 64000);
            send(x, 0, 15, 9, b(0), Kit.four(row[0]), Kit.four(row[1]));
            x.tick(4);
            x.carry(1, 64000);
            String when = row[0] + " .. " + row[1];
            due(when + ": DONE", x.parameter(20), 7);
            due(when + ": came", x.came(5), row[2]);
            for (int i = 0; i < row[2]; i++) {
                due(when + ": channel", x.archived(i, 0), 1);
                due(when + ": TICK", x.archived(i, 3), Math.min(row[1], 4) - i);
            }
            due("the STORE keeps them", x.store(0, 2), 3);
        }
        CraftHouse x = kept(0, 20, 30, 40);
        act(x, 15, 11, b(0), Kit.four(2));
        x.tick(5);
        x.lose(1, 64000);
        send(x, 0, 15, 9, b(0), Kit.four(0), Kit.four(99));
        x.tick(4);
        x.carry(1, 64000);
        due("one went before: came", x.came(5), 2);
        due("one went before: BAD ones", x.came(6), 0);
        due("the newest, bytes", x.archived(0, 5), 40);
        due("the other, bytes", x.archived(1, 5), 30);
    }

    private static void passedIsNotEmpty() {
        Kit.about("6, 15, 9: 26 PASSED is not empty");
        // 16 of 15 bytes: 240; three and a half leave PASSED with each frame
        CraftHouse x = new CraftHouse();
        send(x, 0, 15, 3, b(0, 17, 2));
        act(x, 15, 1, b(0));
        for (int i = 0; i < 5; i++) {
            send(x, 0, 17, 1);
        }
        x.tick(9);
        byte[] all = Kit.join(b(0), Kit.four(0), Kit.four(99));
        int first = send(x, 4, 15, 9, all);
        x.tick(1);
        due("four are begun, one is left", x.craft(8), 1);
        int second = send(x, 4, 15, 9, all);
        x.tick(1);
        due("the frame of LIVE has not taken it", x.craft(8), 1);
        x.tick(1);
        due("PASSED", x.craft(8), 0);
        int third = send(x, 4, 15, 9, all);
        x.tick(9);
        x.carry(1, 64000);
        due("the first", x.became(first, 0), 7);
        due("one is left: code", x.became(second, 1), 26);
        due("the last is begun: PASSED is empty", x.became(third, 0), 7);
        dueDone("no such STORE is first", 24, x, 15, 9, b(2), Kit.four(0), Kit.four(99));
    }

    private static void passedAsTheyAreThen() {
        Kit.about("6, 15, 9: as they are then: what goes from the STORE stays in PASSED");
        CraftHouse x = kept(0, 40, 40, 40, 40);
        x.tick(8);
        x.lose(1, 64000);
        send(x, 0, 15, 9, b(0), Kit.four(0), Kit.four(99));
        send(x, 0, 15, 12, b(0, 1));
        x.tick(1);
        due("the STORE", x.store(0, 2), 0);
        due("PASSED", x.craft(8), 2);
        x.tick(6);
        x.carry(1, 64000);
        due("four came", x.came(5), 4);
    }

    private static void passedOfForty() {
        Kit.about("6, PASSED: 40 packets at most: later ones of the range are left out");
        for (int n : new int[] {39, 40, 41, 44}) {
            CraftHouse x = new CraftHouse();
            send(x, 0, 15, 3, b(0, 17, 2));
            act(x, 15, 1, b(0));
            for (int i = 0; i < n; i++) {
                x.request(17, 1, 0, true);
                if (i % 4 == 3 || i == n - 1) {
                    x.carry(0, 32000);
                    x.tick(1);
                }
            }
            x.tick(30);
            x.lose(1, 64000);
            due("STORE", x.store(0, 2), n);
            send(x, 0, 15, 9, b(0), Kit.four(0), Kit.four(99));
            x.tick(1);
            due(n + ": PASSED, four are begun", x.craft(8), Math.min(n, 40) - 4);
            x.tick(30);
            x.carry(1, 64000);
            due(n + ": came", x.came(5), Math.min(n, 40));
            due(n + ": the last, COUNT", x.archived(0, 4), Math.min(n, 40) - 1);
        }
    }

    private static void passedOfManyBytes() {
        Kit.about("6, PASSED: all its packets: 1200 bytes");
        int[] sizes = new int[15];
        Arrays.fill(sizes, 80);
        CraftHouse x = kept(0, sizes);
        x.tick(20);
        x.lose(1, 64000);
        send(x, 0, 15, 9, b(0), Kit.four(0), Kit.four(99));
        x.tick(1);
        due("PASSED, one is begun", x.craft(8), 14);
        x.tick(30);
        x.carry(1, 64000);
        due("came", x.came(5), 15);
        due("BAD packets", x.came(6), 0);
    }

    private static void storeHasBounds() {
        Kit.about("promise 34, 6 the TICK of the oldest packet (NONE), 7 of the newest; BAD");
        CraftHouse x = kept(0, 20);
        for (int s : new int[] {Integer.MIN_VALUE, -2, -1, 2, 3, Integer.MAX_VALUE}) {
            due("store(" + s + ", 0)", x.store(s, 0), BAD);
            due("store(" + s + ", 6)", x.store(s, 6), BAD);
        }
        for (int what : new int[] {Integer.MIN_VALUE, -2, -1, 8, 9, Integer.MAX_VALUE}) {
            due("store(0, " + what + ")", x.store(0, what), BAD);
            due("store(1, " + what + ")", x.store(1, what), BAD);
        }
        dueStore(x, 0, 0, 1, 1, 20, 0, 1, 2, 2, BAD);
        dueStore(x, 1, 0, 0, 0, 0, 0, 0, NONE, NONE, BAD);
    }

    private static void storedThoughLiveIsFull() {
        Kit.about("6, then it comes to LIVE (24 packets; more are lost, counted): a STORE keeps those that LIVE loses");
        CraftHouse x = new CraftHouse();
        send(x, 0, 15, 3, b(1, 1, 2));
        act(x, 15, 1, b(1));
        for (int i = 0; i < 26; i++) {
            bypass(x, b(1));
        }
        due("LIVE", x.craft(7), 24);
        due("lost of LIVE", x.craft(9), 2);
        dueStore(x, 1, 0, 1, 26, 26 * 18, 0);
    }
}
