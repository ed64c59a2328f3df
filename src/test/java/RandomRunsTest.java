import java.util.ArrayDeque;
import java.util.Deque;
import java.util.Random;

/** Long runs of calls, the same each time, on the class and on the model: all answers must be alike. */
public final class RandomRunsTest {
    private static final int MIXED = 0;
    private static final int BOARD = 1;
    private static final int MACHINE = 2;
    private static final int[] SERVICES = {3, 11, 12, 15, 15, 19, 19, 6, 5};
    private static final int[][] KINDS = {
        {3, 1}, {3, 3}, {3, 5}, {3, 6}, {3, 27}, {5, 5}, {5, 6}, {6, 2}, {6, 5}, {6, 9}, {8, 1}, {8, 1}, {8, 1},
        {11, 1}, {11, 1}, {11, 2}, {11, 3}, {11, 4}, {11, 4}, {11, 4}, {11, 5}, {11, 15}, {11, 16}, {11, 20}, {11, 21},
        {12, 1}, {12, 1}, {12, 2}, {12, 5}, {12, 5}, {12, 6}, {12, 13}, {15, 1}, {15, 1}, {15, 2}, {15, 3}, {15, 3},
        {15, 9}, {15, 9}, {15, 11}, {15, 12}, {17, 1}, {17, 1}, {19, 1}, {19, 1}, {19, 2}, {19, 4}, {19, 5}, {20, 1},
        {20, 3}, {20, 2}, {99, 1}, {17, 3}};

    private final Random random;
    private final CraftHouse x = new CraftHouse();
    private final Model y = new Model();
    private final int noise;
    private final int profile;
    private final int[][] kinds;
    private final Deque<String> lately = new ArrayDeque<>();
    private boolean wrong;

    private RandomRunsTest(int seed) {
        random = new Random(seed);
        profile = seed % 3;
        noise = profile == BOARD ? 0 : seed / 3 % 4;
        kinds = profile == BOARD ? someKinds() : profile == MACHINE ? new int[][] {{17, 1}, {20, 1}} : KINDS;
    }

    /** Of a few services alone, so that what one request leaves meets the next. */
    private int[][] someKinds() {
        int[] services = {SERVICES[upTo(SERVICES.length)], SERVICES[upTo(SERVICES.length)], 8, 20};
        return java.util.Arrays.stream(KINDS)
            .filter(kind -> java.util.Arrays.stream(services).anyMatch(each -> each == kind[0]))
            .toArray(int[][]::new);
    }

    public static void main(String[] args) {
        int runs = args.length > 0 ? Integer.parseInt(args[0]) : 300;
        int first = args.length > 1 ? Integer.parseInt(args[1]) : 0;
        int failed = 0;
        for (int seed = first; seed < first + runs && failed < 3; seed++) {
            RandomRunsTest run = new RandomRunsTest(seed);
            if (!run.passes(250)) {
                failed++;
                System.out.println("run " + seed + " went wrong; its latest calls:");
                run.lately.forEach(System.out::println);
            }
        }
        System.out.println(failed == 0 ? "class and model are alike" : "class and model differ");
        if (failed != 0) {
            System.exit(1);
        }
    }

    private boolean passes(int steps) {
        if (random.nextInt(8) != 0) {
            call("direct", 0, 0);
        }
        for (int i = 0; i < steps && !wrong; i++) {
            step();
            if (i % 5 == 0 || i == steps - 1) {
                compareAll();
            }
        }
        return !wrong;
    }

    private int upTo(int n) {
        return random.nextInt(n);
    }

    private boolean rarely(int n) {
        return random.nextInt(n) == 0;
    }

    private void step() {
        int which = upTo(14);
        if (profile == BOARD && which > 10) {
            which = 0;
        }
        switch (which) {
            case 0: case 1: case 2: case 3:
                makeRequest();
                if (profile == MIXED ? upTo(3) > 0 : rarely(profile == MACHINE ? 3 : 1)) {
                    call("carry", 0, 32000);
                }
                if (profile == BOARD) {
                    boardStep();
                }
                break;
            case 4: case 5:
                call("tick", rarely(10) ? upTo(60) : rarely(80) ? 200 : upTo(4));
                break;
            case 6: case 7:
                call("carry", 0, rarely(3) ? upTo(400) : 32000);
                break;
            case 8: case 9:
                call("carry", 1, rarely(3) ? upTo(900) : 64000);
                break;
            case 10:
                call("tick", 1);
                call("carry", 1, 64000);
                break;
            case 11:
                disturb();
                break;
            case 12:
                injectSome();
                break;
            default:
                others();
                break;
        }
    }

    private void boardStep() {
        if (rarely(3)) {
            call("tick", rarely(20) ? 20 : 1);
        }
        if (rarely(3)) {
            call("sense", upTo(3), upTo(40) - 20);
        }
        if (rarely(30)) {
            call("tick", 200);
        }
    }

    private void others() {
        switch (profile == MACHINE ? upTo(20) : upTo(9)) {
            case 0: case 1:
                call("direct", upTo(13) - (rarely(9) ? 1 : 0), rarely(4) ? upTo(1100) - 20 : upTo(20));
                break;
            case 2:
                if (y.state == 6) {
                    call("direct", upTo(6), upTo(256));
                }
                break;
            case 3:
                call("ear", upTo(2), upTo(4));
                break;
            case 4:
                wrongCalls();
                break;
            case 5: case 6:
                call("sense", upTo(17) - rare(20), rarely(3) ? random.nextInt() : upTo(40) - 20);
                break;
            case 7:
                tapeCalls();
                break;
            case 8: case 9: case 10: case 11:
                call("direct", 7 + upTo(4), upTo(12));
                break;
            case 12:
                call("direct", 10, 1);
                call("direct", 8, 1 + upTo(3));
                break;
            default:
                if (y.state == 6) {
                    call("direct", rarely(3) ? 5 : rarely(3) ? upTo(4) : 0, upTo(256));
                }
                call("tick", upTo(6));
                break;
        }
    }

    private int rare(int n) {
        return rarely(n) ? 1 : 0;
    }

    private void tapeCalls() {
        int n = rarely(4) ? 70 : upTo(35);
        for (int i = 0; i < n; i++) {
            call("feed", random.nextInt(), 1 + upTo(4));
        }
        call("check");
        switch (upTo(5)) {
            case 0:
                call("code", 0);
                break;
            case 1:
                call("wipe");
                Model.unitOf(Model.bytesOf(Model.bitsOf(java.util.List.of(upTo(256), upTo(256), upTo(256), 1, 2, 3, 4))))
                    .subList(2, 10).forEach(each -> call("feed", each, 1));
                int how = upTo(4);
                if (how > 0) {
                    call("inject", 1);
                    int had = x.bits(1);
                    for (int i = 0; i < how; i++) {
                        call("turn", 1, had - 1 - upTo(64));
                    }
                    for (int i = 0; i < 8; i++) {
                        int v = 0;
                        for (int k = 0; k < 8; k++) {
                            v = 2 * v + y.bit(1, had - 64 + 8 * i + k);
                        }
                        call("feed", v, 1);
                    }
                    call("lose", 1, 64);
                }
                call("code", 1);
                break;
            case 2:
                call("build", upTo(256), upTo(256), upTo(16));
                break;
            case 3:
                call("code", 1);
                break;
            default:
                break;
        }
        compareTape();
        call("wipe");
    }

    private void wrongCalls() {
        call("feed", 1, rarely(2) ? 0 : 5);
        call("taped", -1);
        call("code", upTo(4) - 1);
        call("bits", rarely(2) ? -1 : 2);
        call("bit", upTo(3), -1);
        call("bit", 2, 0);
        call("bit", 0, x.bits(0));
        call("carry", 0, -1);
        call("carry", 2, 1);
        call("turn", 1, x.bits(1));
        call("slip", 0, -1);
        call("lose", 0, -1);
        call("inject", 2);
        call("build", 256, 0, 0);
        call("build", 0, -1, 0);
        call("request", 0, 0, 16, 0);
        call("became", -1, 0);
        call("became", x.requests(), 0);
        call("became", 0, 4);
        call("direct", 12, 0);
        call("direct", 3, 256);
        call("direct", 11, 3);
        call("machine", 14);
        call("machine", -1);
        call("ear", 2, 0);
        call("ear", 0, 4);
        call("tick", -1);
        call("tick", 201);
        call("shown", 24, 0);
        call("shown", 0, 3);
        call("memory", 1024);
        call("store", 2, 0);
        call("store", 0, 8);
        call("sense", 16, 7);
        call("parameter", 24);
        call("parameter", -1);
    }

    private void disturb() {
        int line = upTo(2);
        int n = Math.max(1, x.bits(line));
        if (noise == 0) {
            return;
        }
        switch (upTo(4 + noise)) {
            case 0:
                call("slip", line, upTo(n));
                break;
            case 1:
                call("lose", line, upTo(rarely(3) ? n : 30));
                break;
            default:
                for (int i = 0; i < noise; i++) {
                    call("turn", line, upTo(n));
                }
                break;
        }
    }

    private byte[] someData(int service, int subtype) {
        int p = rarely(12) ? upTo(256) : upTo(24);
        int open = rarely(12) ? upTo(256) : upTo(16);
        int few = rarely(8) ? upTo(256) : upTo(4);
        int six = rarely(12) ? upTo(256) : upTo(3);
        int value = rarely(4) ? random.nextInt() : upTo(40) - 20;
        int event = rarely(12) ? upTo(256) : upTo(3);
        int n = rarely(10) ? upTo(10) : 1 + upTo(4);
        int address = rarely(6) ? upTo(1100) : rarely(3) ? 760 + upTo(10) : upTo(40);
        byte[] row = new byte[0];
        switch (service * 100 + subtype) {
            case 2001:
                row = Kit.bytes(n);
                for (int i = 0; i < n; i++) {
                    row = Kit.join(row, Kit.bytes(rarely(20) ? upTo(256) : upTo(24)));
                }
                return row;
            case 2003:
                row = Kit.bytes(n);
                for (int i = 0; i < n; i++) {
                    row = Kit.join(row, Kit.bytes(open), Kit.four(value + i));
                }
                return row;
            case 602:
                row = Kit.join(Kit.two(address), Kit.bytes(n));
                for (int i = 0; i < n; i++) {
                    row = Kit.join(row, Kit.bytes(upTo(256)));
                }
                return row;
            case 605:
                return Kit.join(Kit.two(address), Kit.bytes(rarely(9) ? upTo(256) : 1 + upTo(64)));
            case 609:
                return Kit.join(Kit.two(address), Kit.two(rarely(9) ? upTo(3) : upTo(1100)));
            case 301:
                row = Kit.join(Kit.bytes(six), Kit.two(rarely(9) ? 0 : 1 + upTo(5)), Kit.bytes(n));
                for (int i = 0; i < n; i++) {
                    row = Kit.join(row, Kit.bytes(rarely(30) ? upTo(256) : upTo(24)));
                }
                return row;
            case 303: case 305: case 306: case 327: case 1201: case 1202: case 1206:
                return Kit.bytes(six);
            case 505: case 506: case 1902: case 1904: case 1905:
                return Kit.bytes(event);
            case 801:
                int k = upTo(8) < 5 ? 3 : few;
                return Kit.join(Kit.bytes(k), Kit.four(k == 3 ? upTo(3) + 32 * upTo(9) : value));
            case 1205:
                int low = rarely(3) ? value : upTo(20) - 10;
                return Kit.join(Kit.bytes(six, p), Kit.four(low), Kit.four(rarely(5) ? value : low + upTo(20)),
                    Kit.bytes(rarely(9) ? 0 : 1 + upTo(3), event));
            case 1901:
                return Kit.join(Kit.bytes(event, rarely(9) ? 2 : rarely(3) ? 0 : 1), innerPacket());
            case 1104:
                return Kit.join(Kit.bytes(few), Kit.four(x.tick(0) + upTo(rarely(4) ? 2000 : 12)), innerPacket());
            case 1105:
                return Kit.two(rarely(9) ? upTo(65536) : upTo(6));
            case 1115:
                return Kit.four(rarely(6) ? random.nextInt() : rarely(6) ? Integer.MAX_VALUE - upTo(40) : upTo(9) - 3);
            case 1120: case 1121:
                return Kit.bytes(few);
            case 1501: case 1502:
                return Kit.bytes(rarely(9) ? 2 : upTo(2));
            case 1503:
                int[] told = {0x0101, 0x0107, 0x1102, 0x0319, 0x0103, 0x0102, 0x1402, 0x0501, 0x0C0C, 0x0606};
                return Kit.join(Kit.bytes(rarely(9) ? 2 : upTo(2)), Kit.two(told[upTo(10)]));
            case 1509:
                return Kit.join(Kit.bytes(rarely(9) ? 2 : upTo(2)), Kit.four(rarely(3) ? upTo(300) : 0),
                    Kit.four(rarely(3) ? upTo(300) : 9999));
            case 1511:
                return Kit.join(Kit.bytes(rarely(9) ? 2 : upTo(2)), Kit.four(upTo(100)));
            case 1512:
                return Kit.bytes(rarely(9) ? 2 : upTo(2), rarely(9) ? 2 : upTo(2));
            default:
                return row;
        }
    }

    private byte[] innerPacket() {
        byte[] row = new byte[0];
        for (int i = 0; i < 20; i++) {
            row = somePacket(upTo(6));
            if (row.length >= 13 && row.length <= 40 || rarely(30)) {
                break;
            }
        }
        return row.length > 40 ? java.util.Arrays.copyOf(row, 40) : row;
    }

    private byte[] somePacket(int count) {
        int[] kind = rarely(2) ? new int[] {8, 1} : KINDS[upTo(KINDS.length)];
        if (kind[0] == 19 || kind[0] == 11 && kind[1] == 4) {
            kind = new int[] {17, 1};
        }
        byte[] row = Kit.packetUp(count, upTo(16), kind[0], kind[1], someData(kind[0], kind[1]));
        if (rarely(12)) {
            row[upTo(row.length)] ^= (byte) (1 << upTo(8));
            if (rarely(2)) {
                row = Kit.checked(java.util.Arrays.copyOf(row, row.length - 2));
            }
        }
        return row;
    }

    private void feedAll(byte[] row) {
        for (byte each : row) {
            call("feed", each, 1);
        }
    }

    private void makeRequest() {
        int[] kind = kinds[upTo(kinds.length)];
        byte[] data = someData(kind[0], kind[1]);
        if (rarely(25) && data.length > 0) {
            data = java.util.Arrays.copyOf(data, data.length - 1 + upTo(3));
        }
        feedAll(data);
        if (rarely(20)) {
            feedAll(new byte[upTo(60)]);
        }
        int acks = rarely(2) ? 15 : upTo(16);
        call("request", kind[0], kind[1], acks, profile == BOARD || rarely(profile == MACHINE ? 20 : 5) ? 1 : 0);
        call("wipe");
    }

    private void injectSome() {
        if (profile == MACHINE && upTo(4) > 0) {
            call("carry", 0, 32000);
            call("tick", 1);
            call("carry", 1, 64000);
        } else if (rarely(2)) {
            feedAll(rarely(8) ? randomBytes(upTo(60)) : someUnit());
            call("inject", 0);
        } else {
            feedAll(someFrameDown());
            call("inject", 1);
        }
    }

    private byte[] randomBytes(int n) {
        byte[] row = new byte[n];
        random.nextBytes(row);
        return row;
    }

    private byte[] someUnit() {
        byte[] data = new byte[0];
        int n = 1 + upTo(3);
        for (int i = 0; i < n; i++) {
            data = Kit.join(data, someFrame());
        }
        return Kit.unit(data.length > 119 ? java.util.Arrays.copyOf(data, 119) : data);
    }

    private byte[] someFrame() {
        switch (upTo(8)) {
            case 0:
                return Kit.frame(!rarely(9), true, upTo(256), Kit.bytes(rarely(9) ? 1 : 0));
            case 1:
                return Kit.frame(!rarely(9), true, 0, Kit.bytes(0x82, rare(9), upTo(256)));
            case 2:
                return Kit.frame(true, false, 0, somePacket(upTo(64)));
            case 3:
                return Kit.frame(false, false, (x.craft(0) + upTo(40) - 20) & 255, somePacket(upTo(64)));
            case 4: case 5:
                return Kit.frame(false, false, x.craft(0), somePacket(upTo(64)));
            case 6:
                byte[] row = Kit.frame(rarely(2), rarely(2), upTo(4), randomBytes(upTo(rarely(3) ? 70 : 14)));
                row[upTo(row.length)] ^= (byte) (rare(2) << upTo(8));
                return row;
            default:
                return Kit.join(Kit.bytes(0, 0xAB, 0, upTo(9), 0), randomBytes(upTo(8)));
        }
    }

    private byte[] someFrameDown() {
        int channel = rarely(4) ? upTo(8) : upTo(2);
        byte[] content = new byte[0];
        for (int i = 0; i < 4 && content.length < 52; i++) {
            content = Kit.join(content, somePacketDown());
        }
        byte[] report = Kit.bytes(1, rare(12), (upTo(2) << 5 & rare(3) << 5) | rare(4) << 4 | rare(3) << 3
            | upTo(4) << 1 | rare(20) | rare(20) << 7, rarely(2) ? x.machine(2) : (x.machine(2) + upTo(10) - 2));
        int own = y.ownBefore[channel & 1] + 1 + rare(5);
        int first = rarely(4) ? upTo(0x800) : 0;
        byte[] row = Kit.frameDown(channel, upTo(256), own & 255, first, Kit.filled(content, 52, upTo(3)), report);
        if (rarely(9)) {
            row[upTo(row.length)] ^= (byte) (1 << upTo(8));
        }
        return row;
    }

    private byte[] somePacketDown() {
        int tick = rarely(5) ? random.nextInt() : upTo(60);
        int count = upTo(6);
        switch (upTo(7)) {
            case 0: case 1:
                int[] subtypes = {1, 2, 3, 4, 5, 6, 7, 8, 9};
                byte[] data = Kit.join(Kit.two((rarely(2) ? 0xC000 : 0) | Math.max(0, x.requests() - 1 - upTo(70))),
                    Kit.bytes(upTo(20)));
                return Kit.packetDown(count, 1, subtypes[upTo(9)], tick,
                    java.util.Arrays.copyOf(data, rarely(4) ? upTo(4) : 3));
            case 2:
                return Kit.packetDown(count, 20, 2, tick, valuesShown(new byte[0]));
            case 3:
                return Kit.packetDown(count, 3, 25, tick, valuesShown(Kit.bytes(upTo(6))));
            case 4:
                byte[] idle = new byte[7 + upTo(6)];
                System.arraycopy(Kit.bytes(7, 255, 192, 0, 0, idle.length - 7), 0, idle, 0, 6);
                return idle;
            case 5:
                byte[] row = Kit.packetDown(count, upTo(21), upTo(30), tick, randomBytes(upTo(20)));
                row[upTo(row.length)] ^= (byte) (1 << upTo(8));
                return row;
            default:
                return randomBytes(upTo(20));
        }
    }

    private byte[] valuesShown(byte[] ahead) {
        int n = upTo(4);
        byte[] row = Kit.join(ahead, Kit.bytes(n));
        for (int i = 0; i < n - rare(5); i++) {
            row = Kit.join(row, Kit.bytes(rarely(9) ? upTo(256) : upTo(24)), Kit.four(random.nextInt()));
        }
        return rarely(9) ? java.util.Arrays.copyOf(row, row.length - 1) : row;
    }

    // ---- calls on both

    private void compareTape() {
        for (int i = 0; i <= y.tape.size(); i++) {
            call("taped", i);
        }
    }

    private void compareAll() {
        for (int i = 0; i < 16; i++) {
            call("craft", i);
            call("machine", i);
            call("came", i);
        }
        for (int line = 0; line < 2; line++) {
            call("bits", line);
            for (int i = 0; i < 10; i++) {
                call("bit", line, upTo(Math.max(1, x.bits(line))));
            }
            call("bit", line, x.bits(line) - 1);
        }
        call("requests");
        for (int i = Math.max(0, x.requests() - 66); i <= x.requests(); i++) {
            for (int k = 0; k < 5; k++) {
                call("became", i, k);
            }
        }
        for (int p = 0; p < 25; p++) {
            call("parameter", p);
            for (int k = 0; k < 4; k++) {
                call("shown", p, k);
            }
        }
        for (int i = -1; i < 7; i++) {
            for (int k = -1; k < 14; k++) {
                call("structure", i, k);
                call("watch", i, k);
            }
        }
        for (int i = -1; i < 33; i++) {
            for (int k = 0; k < 5; k++) {
                call("event", i, k);
            }
        }
        for (int i = -3; i < 17; i++) {
            for (int k = -1; k < 7; k++) {
                call("entry", i, k);
            }
        }
        for (int i = -1; i < 3; i++) {
            for (int k = -1; k < 9; k++) {
                call("store", i, k);
            }
        }
        compareArchive();
        for (int i = 0; i < 30; i++) {
            call("memory", upTo(1030) - 2);
            call("memory", upTo(50));
        }
    }

    private void compareArchive() {
        for (int i = -1; i < 41; i++) {
            for (int k = 0; k < 7; k++) {
                call("archived", i, k);
            }
        }
        for (int i = 0; i < 5; i++) {
            for (int k = -1; k < 90; k++) {
                call("archivedByte", i, k);
            }
        }
    }

    private void call(String name, int... a) {
        if (wrong) {
            return;
        }
        boolean changes = "feed wipe code carry turn slip lose inject build request direct ear tick sense".contains(name);
        if (changes && !name.equals("feed")) {
            lately.addLast(name + java.util.Arrays.toString(a));
            if (lately.size() > 25) {
                lately.removeFirst();
            }
        }
        int got = onClass(name, a);
        int due = onModel(name, a);
        if (got != due) {
            wrong = true;
            lately.addLast(name + java.util.Arrays.toString(a) + " answered " + got + ", due is " + due);
        }
    }

    private int onClass(String name, int[] a) {
        switch (name) {
            case "feed": return x.feed(a[0], a[1]);
            case "taped": return x.taped(a[0]);
            case "wipe": return x.wipe();
            case "check": return x.check();
            case "code": return x.code(a[0]);
            case "bits": return x.bits(a[0]);
            case "bit": return x.bit(a[0], a[1]);
            case "carry": return x.carry(a[0], a[1]);
            case "turn": return x.turn(a[0], a[1]);
            case "slip": return x.slip(a[0], a[1]);
            case "lose": return x.lose(a[0], a[1]);
            case "inject": return x.inject(a[0]);
            case "build": return x.build(a[0], a[1], a[2]);
            case "request": return x.request(a[0], a[1], a[2], a[3] != 0);
            case "requests": return x.requests();
            case "became": return x.became(a[0], a[1]);
            case "direct": return x.direct(a[0], a[1]);
            case "machine": return x.machine(a[0]);
            case "ear": return x.ear(a[0], a[1]);
            case "came": return x.came(a[0]);
            case "archived": return x.archived(a[0], a[1]);
            case "archivedByte": return x.archivedByte(a[0], a[1]);
            case "shown": return x.shown(a[0], a[1]);
            case "tick": return x.tick(a[0]);
            case "sense": return x.sense(a[0], a[1]);
            case "parameter": return x.parameter(a[0]);
            case "memory": return x.memory(a[0]);
            case "craft": return x.craft(a[0]);
            case "structure": return x.structure(a[0], a[1]);
            case "watch": return x.watch(a[0], a[1]);
            case "event": return x.event(a[0], a[1]);
            case "entry": return x.entry(a[0], a[1]);
            default: return x.store(a[0], a[1]);
        }
    }

    private int onModel(String name, int[] a) {
        switch (name) {
            case "feed": return y.feed(a[0], a[1]);
            case "taped": return y.taped(a[0]);
            case "wipe": return y.wipe();
            case "check": return y.check();
            case "code": return y.code(a[0]);
            case "bits": return y.bits(a[0]);
            case "bit": return y.bit(a[0], a[1]);
            case "carry": return y.carry(a[0], a[1]);
            case "turn": return y.turn(a[0], a[1]);
            case "slip": return y.slip(a[0], a[1]);
            case "lose": return y.lose(a[0], a[1]);
            case "inject": return y.inject(a[0]);
            case "build": return y.build(a[0], a[1], a[2]);
            case "request": return y.request(a[0], a[1], a[2], a[3] != 0);
            case "requests": return y.requests();
            case "became": return y.became(a[0], a[1]);
            case "direct": return y.direct(a[0], a[1]);
            case "machine": return y.machine(a[0]);
            case "ear": return y.ear(a[0], a[1]);
            case "came": return y.came(a[0]);
            case "archived": return y.archived(a[0], a[1]);
            case "archivedByte": return y.archivedByte(a[0], a[1]);
            case "shown": return y.shown(a[0], a[1]);
            case "tick": return y.tick(a[0]);
            case "sense": return y.sense(a[0], a[1]);
            case "parameter": return y.parameter(a[0]);
            case "memory": return y.memory(a[0]);
            case "craft": return y.craft(a[0]);
            case "structure": return y.structure(a[0], a[1]);
            case "watch": return y.watch(a[0], a[1]);
            case "event": return y.event(a[0], a[1]);
            case "entry": return y.entry(a[0], a[1]);
            default: return y.store(a[0], a[1]);
        }
    }
}
