import java.util.Arrays;
import java.util.LinkedHashMap;
import java.util.Map;
import java.util.function.Consumer;
import java.util.function.ToIntFunction;
import java.util.stream.Stream;

/**
 * What a call changes, and that it changes nothing else: on an object of which nearly all that can be asked is not 0,
 * so that a count which goes back to 0 would be seen, too.
 */
public final class OnlyThatTest extends Trip {
    private static final Map<String, ToIntFunction<CraftHouse>> ASKED = asked();
    private static final String[] EMPTY_TAPE = {"taped(0) = -1", "check = 65535"};

    private OnlyThatTest() {
    }

    public static void main(String[] args) throws Exception {
        Kit.runAll(OnlyThatTest.class);
    }

    private static Map<String, ToIntFunction<CraftHouse>> asked() {
        Map<String, ToIntFunction<CraftHouse>> all = new LinkedHashMap<>();
        all.put("bits(0)", x -> x.bits(0));
        all.put("bits(1)", x -> x.bits(1));
        all.put("requests", CraftHouse::requests);
        all.put("check", CraftHouse::check);
        all.put("taped(0)", x -> x.taped(0));
        all.put("memory(7)", x -> x.memory(7));
        rows(all, "machine", 14, CraftHouse::machine);
        rows(all, "came", 11, CraftHouse::came);
        rows(all, "craft", 16, CraftHouse::craft);
        rows(all, "parameter", 1, CraftHouse::parameter);
        all.put("parameter(3)", x -> x.parameter(3));
        rows(all, "counted", 8, (x, i) -> x.parameter(16 + i));
        rows(all, "structure 0", 6, (x, i) -> x.structure(0, i));
        rows(all, "watch 0", 7, (x, i) -> x.watch(0, i));
        rows(all, "event 3", 4, (x, i) -> x.event(3, i));
        rows(all, "schedule", 6, (x, i) -> x.entry(NONE, i));
        rows(all, "entry 0", 3, (x, i) -> x.entry(0, i));
        rows(all, "store 0", 8, (x, i) -> x.store(0, i));
        rows(all, "shown 3", 3, (x, i) -> x.shown(3, i));
        rows(all, "newest", 6, (x, i) -> x.archived(0, i));
        rows(all, "code", 4, (x, i) -> x.became(i, 1));
        return all;
    }

    private interface Row {
        int at(CraftHouse x, int i);
    }

    private static void rows(Map<String, ToIntFunction<CraftHouse>> all, String name, int n, Row row) {
        for (int i = 0; i < n; i++) {
            int place = i;
            all.put(name + "(" + i + ")", x -> row.at(x, place));
        }
    }

    /** Each change: a name and "= value", "+ value", "- value"; or a name and "?": it may be any. */
    private static void only(String what, CraftHouse x, Consumer<CraftHouse> step, String... changes) {
        Map<String, Integer> want = new LinkedHashMap<>();
        ASKED.forEach((name, ask) -> want.put(name, ask.applyAsInt(x)));
        for (String change : changes) {
            String[] words = change.split(" (?=[=+?-])|(?<=[=+-]) ");
            due("there is what changes: " + words[0], want.containsKey(words[0]) ? 1 : 0, 1);
            want.compute(words[0], (name, was) -> changed(was, words));
        }
        step.accept(x);
        want.forEach((name, v) -> due(what + ": " + name, ASKED.get(name).applyAsInt(x), v));
    }

    /** Nothing, if it may be any. */
    private static Integer changed(int was, String[] words) {
        switch (words[1]) {
            case "?": return null;
            case "=": return Integer.parseInt(words[2]);
            case "+": return was + Integer.parseInt(words[2]);
            default: return was - Integer.parseInt(words[2]);
        }
    }

    // ---- objects that have been used

    /** Much has been on board and on the ground; nothing is on the lines, THE TAPE is empty, the machine is OFF. */
    private static CraftHouse worn() {
        CraftHouse x = new CraftHouse();
        x.direct(8, 1);
        x.direct(9, 1);
        x.direct(6, 199);
        x.direct(0, 0);
        x.request(17, 1, 0, false);
        x.tick(1);
        x.lose(0, 272);
        for (int[] each : new int[][] {{7, 3}, {8, 30}, {9, 5}, {10, 1}, {11, 20}}) {
            x.direct(each[0], each[1]);
        }
        send(x, 0, 99, 1);
        send(x, 0, 8, 1, b(1), Kit.four(44));
        send(x, 0, 8, 1, b(3), Kit.four(35));
        send(x, 0, 3, 1, b(0), Kit.two(50), b(1, 3));
        send(x, 0, 8, 1, b(7), Kit.four(0));
        x.tick(1);
        send(x, 0, 3, 5, b(0));
        send(x, 0, 12, 5, watch(0, 3, 1, 9, 2, 4));
        send(x, 0, 12, 1, b(0));
        send(x, 0, 19, 1, b(3, 1), TEST);
        x.tick(1);
        send(x, 0, 11, 4, b(1), Kit.four(5000), TEST);
        send(x, 0, 11, 1);
        send(x, 0, 15, 12, b(0, 1));
        send(x, 0, 15, 3, b(0, 17, 2));
        x.tick(1);
        send(x, 0, 15, 1, b(0));
        send(x, 0, 20, 3, b(1, 3), Kit.four(5));
        send(x, 0, 20, 1, b(1, 3));
        send(x, 0, 6, 2, Kit.two(7), b(1, 77));
        x.tick(1);
        x.carry(1, 64000);
        wornUp(x);
        wornDown(x);
        return x;
    }

    private static void wornUp(CraftHouse x) {
        // a BAD frame, its block mended; V 9, AGAIN
        Kit.inject(x, 0, Kit.unit(Kit.filled(NOTHING, 7, 0)));
        x.turn(0, 20);
        x.carry(0, 32000);
        set(x, 9);
        number(x, 10);
        // more packets than LIVE has room for, one more with BYPASS than REQUESTS has
        for (int i = 0; i < 8; i++) {
            ask(x, 17, 1);
        }
        x.tick(2);
        for (int i = 0; i < 9; i++) {
            send(x, 0, 17, 1);
        }
        x.tick(2);
    }

    /** A BAD packet, a BAD frame, one that is lost; the mark of the last one was missed, its report is not 0. */
    private static void wornDown(CraftHouse x) {
        x.carry(1, 1088);
        x.turn(1, 60);
        x.carry(1, 544);
        x.lose(1, 544);
        down(x, 1, 0, 0, Kit.join(Kit.hex("080CC000000000"), idle(45)));
        x.ear(0, 1);
        x.ear(1, 2);
        x.tick(6);
        x.turn(1, 5 * 544);
        x.turn(1, 5 * 544 + 1);
        x.carry(1, 64000);
    }

    /** Used, and at work: FRAMES are SENT, requests wait, a unit has come in part, THE TAPE and the lines have something. */
    private static CraftHouse busy() {
        CraftHouse x = worn();
        x.direct(0, 0);
        for (int i = 0; i < 5; i++) {
            x.request(17, 1, 0, false);
        }
        x.lose(0, 32000);
        send(x, 0, 15, 9, b(0), Kit.four(0), Kit.four(9999));
        x.tick(1);
        send(x, 0, 17, 1);
        x.request(17, 1, 0, true);
        x.carry(0, 16 + 64);
        x.feed(0x010203, 3);
        return x;
    }

    private static void usedObjects() {
        Kit.about("what the tests of this class begin with: nearly all that can be asked is not 0");
        String noughts = " machine(5) machine(9) craft(1) craft(2) store 0(4) newest(0) code(0) code(2) code(3)";
        StringBuilder found = new StringBuilder();
        CraftHouse x = busy();
        ASKED.forEach((name, ask) -> found.append(ask.applyAsInt(x) == 0 ? " " + name : ""));
        due("noughts:" + found, found.toString().equals(noughts) ? 1 : 0, 1);
        dueMachine("busy", x, 1, 203, 200, 1, 29, 0, 6, 3, 2, 0, 5, 3, 30, 1);
    }

    // ---- calls

    private static String[] join(String[] some, String... others) {
        return Stream.concat(Arrays.stream(some), Arrays.stream(others)).toArray(String[]::new);
    }

    private static void theTape() {
        Kit.about("promises 2 to 6, 14, 15: what calls with THE TAPE change");
        only("feed", busy(), x -> x.feed(4, 1), "check = " + Kit.checkOf(b(1, 2, 3, 4)));
        only("check", busy(), CraftHouse::check);
        only("wipe", busy(), CraftHouse::wipe, EMPTY_TAPE);
        only("code", busy(), x -> x.code(0), "taped(0) = " + 0xEB, "check = " + Kit.checkOf(Kit.unit(b(1, 2, 3))));
        only("inject up", busy(), x -> x.inject(0), join(EMPTY_TAPE, "bits(0) + 24"));
        only("inject down", busy(), x -> x.inject(1), join(EMPTY_TAPE, "bits(1) + 24"));
        CraftHouse y = busy();
        byte[] packet = Kit.packetUp(y.requests(), 9, 17, 1, b(1, 2, 3));
        only("build", y, x -> x.build(17, 1, 9), "requests + 1", "taped(0) = 24", "check = " + Kit.checkOf(packet));
        only("request", busy(), x -> x.request(17, 1, 9, false), join(EMPTY_TAPE, "requests + 1", "machine(8) + 1"));
        // 16 bytes of a packet, 23 of a frame: four blocks
        only("BYPASS", busy(), x -> x.request(17, 1, 9, true), join(EMPTY_TAPE, "requests + 1", "bits(0) + 336"));
    }

    private static void theLines() {
        Kit.about("promises 9 to 12: what calls with lines change");
        only("turn", busy(), x -> x.turn(1, 0));
        only("slip", busy(), x -> x.slip(1, 0), "bits(1) - 1");
        only("lose", busy(), x -> x.lose(1, 10), "bits(1) - 10");
        only("lose up", busy(), x -> x.lose(0, 10), "bits(0) - 10");
        only("carry nothing", busy(), x -> x.carry(0, 0));
        only("carry a bit down", busy(), x -> x.carry(1, 1), "bits(1) - 1");
        only("carry a bit up", busy(), x -> x.carry(0, 1), "bits(0) - 1");
        only("carry a BLOCK", busy(), x -> x.carry(0, 64), "bits(0) - 64", "craft(11) + 7");
    }

    private static void directives() {
        Kit.about("promises 18, 20, 26: what directives, ear, sense change");
        only("K", busy(), x -> x.direct(7, 9), "machine(11) = 9");
        only("TIME", busy(), x -> x.direct(8, 9), "machine(12) = 9");
        only("LIMIT", busy(), x -> x.direct(9, 9), "machine(10) = 9");
        only("KIND", busy(), x -> x.direct(10, 0), "machine(13) = 0");
        only("W", busy(), x -> x.direct(11, 30), "craft(5) = 30");
        only("begin, in 1", busy(), x -> x.direct(0, 0));
        only("S and A", worn(), x -> x.direct(6, 33), "machine(1) = 33", "machine(2) = 33");
        only("begin", worn(), x -> x.direct(0, 0), "machine(0) = 1");
        only("begin with a look", worn(), x -> x.direct(1, 0), "machine(0) = 4", "machine(4) = 30");
        // eight and ten bytes of a frame: two blocks
        only("UNLOCK", worn(), x -> x.direct(2, 0), "machine(0) = 5", "machine(4) = 30", "bits(0) + 208");
        only("SET", worn(), x -> x.direct(3, 33), "machine(0) = 5", "machine(1) = 33", "machine(2) = 33", "machine(4) = 30",
            "bits(0) + 208");
        only("end", busy(), x -> x.direct(4, 0), alarm(7));
        only("E", busy(), x -> x.ear(0, 3));
        only("F", busy(), x -> x.ear(1, 3));
        only("sense", busy(), x -> x.sense(3, 6), "parameter(3) = 6");
    }

    private static String[] alarm(int n) {
        return new String[] {"machine(0) = 6", "machine(2) = 203", "machine(4) = 0", "machine(6) = " + n, "machine(7) = 0",
            "machine(8) = 0"};
    }

    // ---- a unit comes up

    /** B is one more, a unit was begun, the line is empty. */
    private static String[] unitWithB(CraftHouse x, String... changes) {
        return unit(join(changes, "craft(4) = " + (x.craft(4) + 1 & 3)));
    }

    private static String[] unit(String... changes) {
        return join(changes, "bits(0) = 0", "craft(13) + 1");
    }

    /** With a frame on the line. */
    private static CraftHouse with(CraftHouse x, byte[] frame) {
        Kit.inject(x, 0, Kit.unit(frame));
        return x;
    }

    private static void raised(String what, CraftHouse x, String... changes) {
        only(what, x, each -> each.carry(0, 32000), changes);
    }

    private static void unitsWithControl() {
        Kit.about("2 UP: what a FRAME with CONTROL changes, and a BAD one");
        CraftHouse unlock = with(worn(), Kit.frame(true, true, 0, b(0)));
        raised("UNLOCK", unlock, unitWithB(unlock, "craft(3) = 0"));
        CraftHouse set = with(worn(), Kit.frame(true, true, 0, b(0x82, 0, 77)));
        raised("SET", set, unitWithB(set, "craft(0) = 77", "craft(3) = 0"));
        raised("BAD", with(worn(), Kit.frame(false, true, 0, b(0))), unit("counted(1) + 1"));
        CraftHouse locked = worn();
        number(locked, 100);
        raised("SET, LOCKOUT", with(locked, Kit.frame(true, true, 0, b(0x82, 0, 77))), unitWithB(locked));
    }

    private static void unitsWithNumbers() {
        Kit.about("2 UP: what a FRAME with N changes");
        String[] taken = {"craft(6) + 1", "counted(0) + 1"};
        raised("due", with(worn(), Kit.frame(false, false, 9, TEST)), unit(join(taken, "craft(0) = 10", "craft(3) = 0")));
        raised("ahead", with(worn(), Kit.frame(false, false, 10, TEST)), unit());
        raised("behind", with(worn(), Kit.frame(false, false, 8, TEST)), unit());
        raised("far", with(worn(), Kit.frame(false, false, 100, TEST)), unit("craft(1) = 1"));
        CraftHouse locked = worn();
        number(locked, 100);
        raised("LOCKOUT", with(locked, Kit.frame(false, false, 9, TEST)), unit());
        CraftHouse bypass = with(worn(), Kit.frame(true, false, 0, TEST));
        bypass.turn(0, 50);
        raised("BYPASS, mended", bypass, unitWithB(bypass, join(taken, "craft(12) + 1")));
        CraftHouse refused = with(worn(), Kit.frame(true, false, 0, b(1)));
        raised("BYPASS, REFUSED", refused, unitWithB(refused, "counted(0) + 1", "counted(2) + 1", "craft(7) + 1", "craft(14) + 1"));
        CraftHouse part = busy();
        raised("the rest of a unit", part, "bits(0) = 0", "craft(4) = " + (part.craft(4) + 1 & 3), "craft(6) + 1", "craft(10) = 0",
            "craft(11) = 0", "counted(0) + 1");
    }

    private static void unitsWithoutRoom() {
        Kit.about("2 UP: what a FRAME changes that finds no room in REQUESTS");
        for (boolean bypass : new boolean[] {false, true}) {
            CraftHouse x = worn();
            for (int i = 0; i < 8; i++) {
                send(x, 0, 17, 1);
            }
            with(x, Kit.frame(bypass, false, 9, TEST));
            raised("BYPASS " + bypass, x, bypass ? unitWithB(x, "craft(15) + 1") : unit("craft(2) = 1"));
        }
    }

    // ---- a frame comes down

    /** With a frame on the line, and nothing else. */
    private static CraftHouse with(CraftHouse x, int channel, int own, byte[] content, byte[] report) {
        x.lose(1, 64000);
        x.wipe();
        Kit.inject(x, 1, Kit.frameDown(channel, 0, own, 0, content, report));
        return x;
    }

    private static void brought(String what, CraftHouse x, String... changes) {
        only(what, x, each -> each.carry(1, 64000), join(changes, "bits(1) = 0", "came(1) = 0", "came(2) + 1"));
    }

    private static String[] report(int bits, int v, String... changes) {
        return join(changes, "came(8) + 1", "came(9) = " + v, "came(10) = " + bits / 2);
    }

    private static void framesThatCome() {
        Kit.about("4 DOWN, 7 THE GROUND: what a FRAME changes that came");
        byte[] flags = b(1, 0, LOCKOUT | WAIT, 5);
        brought("IDLE", with(worn(), 7, 0, FIVES, flags), report(LOCKOUT | WAIT, 5));
        brought("without a REPORT", with(worn(), 7, 0, FIVES, b(1, 1, 0, 5)));
        CraftHouse bad = with(worn(), 7, 0, FIVES, flags);
        bad.turn(1, 500);
        brought("BAD", bad, "came(3) + 1");
        brought("of STORED", with(worn(), 1, 1, idle(52), flags), report(LOCKOUT | WAIT, 5));
        brought("of STORED, a GAP", with(worn(), 1, 9, idle(52), flags), report(LOCKOUT | WAIT, 5, "came(4) + 1"));
        byte[] packet = Kit.packetDown(0x777, 17, 2, 6, NOTHING);
        String[] archived = {"came(5) + 1", "newest(0) = 1", "newest(1) = 17", "newest(2) = 2", "newest(3) = 6", "newest(4) = " + 0x777,
            "newest(5) = 15"};
        brought("a packet", with(worn(), 1, 1, Kit.join(packet, idle(37)), flags), report(LOCKOUT | WAIT, 5, archived));
        byte[] wrong = Kit.filled(packet, 15, 0);
        wrong[14] ^= 1;
        brought("a BAD packet", with(worn(), 1, 1, Kit.join(wrong, idle(37)), flags), report(LOCKOUT | WAIT, 5, "came(6) + 1"));
    }

    private static void valuesThatCome() {
        Kit.about("7 THE GROUND: what packets change that are SHOWN or tell of requests");
        byte[] value = Kit.packetDown(0x777, 20, 2, 999, Kit.join(b(1, 3), Kit.four(-8)));
        brought("20, 2", with(worn(), 1, 1, Kit.join(value, idle(31)), b(1, 0, 0, 5)), report(0, 5, "came(5) + 1", "newest(0) = 1",
            "newest(1) = 20", "newest(2) = 2", "newest(3) = 999", "newest(4) = " + 0x777, "newest(5) = 21", "shown 3(1) = -8",
            "shown 3(2) = 999"));
        byte[] told = Kit.packetDown(0x777, 1, 8, 999, Kit.join(b(0, 3), b(99)));
        brought("1, 8", with(worn(), 1, 1, Kit.join(told, idle(34)), b(1, 0, 0, 5)), report(0, 5, "came(5) + 1", "newest(0) = 1",
            "newest(1) = 1", "newest(2) = 8", "newest(3) = 999", "newest(4) = " + 0x777, "newest(5) = 18", "code(3) = 99"));
    }

    private static void reportsAtWork() {
        Kit.about("3 THE GROUND'S MACHINE: what a REPORT changes (K 3, LIMIT 5, SENT 200 .. 202, two wait)");
        reported("x = A", 0, 200);
        reported("one acknowledged", 0, 201, "machine(1) = 204", "machine(2) = 201", "machine(4) = 30", "machine(8) = 1", "bits(0) + 272");
        reported("all", 0, 203, "machine(1) = 205", "machine(2) = 203", "machine(4) = 30", "machine(7) = 2", "machine(8) = 0",
            "bits(0) + 544");
        reported("AGAIN", AGAIN, 200, "machine(0) = 2", "machine(3) = 2", "machine(4) = 30", "bits(0) + 816");
        reported("AGAIN, one acknowledged", AGAIN, 201, "machine(0) = 2", "machine(1) = 204", "machine(2) = 201", "machine(3) = 2",
            "machine(4) = 30", "machine(8) = 1", "bits(0) + 816");
        reported("AGAIN, WAIT", AGAIN | WAIT, 200, "machine(0) = 3");
        reported("LOCKOUT", LOCKOUT, 200, alarm(1));
        reported("none of A .. S", 0, 199, alarm(2));
        reported("all, AGAIN", AGAIN, 203, alarm(3));
        reported("WAIT", WAIT, 202, alarm(4));
    }

    private static void reported(String what, int bits, int v, String... changes) {
        brought(what, with(busy(), 7, 0, FIVES, b(1, 0, bits, v)), report(bits, v, changes));
    }

    // ---- a tick on board

    /** A request is on board, the only one; what it changes, beside what each tick does. */
    private static void ticked(String what, int service, int subtype, byte[] data, String... changes) {
        CraftHouse x = worn();
        send(x, 0, service, subtype, data);
        boolean done = service != 8 || data[0] != 2;
        only(what, x, each -> each.tick(1), join(changes, "counted(7) + 1", done ? "counted(4) + 1" : "counted(3) + 1", "bits(1) + 544",
            "craft(6) = 0", "craft(7) ?", "structure 0(3) - 1", service == 12 ? "watch 0(6) ?" : "watch 0(6) + 1"));
    }

    private static void services() {
        Kit.about("6 SERVICES: what a request changes, and a tick");
        ticked("17, 1", 17, 1, NOTHING, "craft(14) + 1", "store 0(2) + 1", "store 0(3) + 15", "store 0(7) ?");
        ticked("20, 3", 20, 3, Kit.join(b(1, 3), Kit.four(6)), "parameter(3) = 6");
        ticked("20, 1", 20, 1, b(1, 3), "craft(14) + 1");
        ticked("6, 2", 6, 2, b(0, 7, 1, 78), "memory(7) = 78");
        ticked("6, 9", 6, 9, b(0, 7, 0, 1), "craft(14) + 1");
        ticked("3, 6", 3, 6, b(0), "structure 0(1) = 0");
        ticked("3, 27", 3, 27, b(0), "craft(14) + 1");
        ticked("5, 6", 5, 6, b(3), "event 3(0) = 0");
        ticked("8, 1, 0", 8, 1, Kit.join(b(0), Kit.four(6)));
        ticked("8, 1, 1", 8, 1, Kit.join(b(1), Kit.four(6)), "parameter(0) = 6");
        ticked("8, 1, 2", 8, 1, Kit.join(b(2), Kit.four(6)), "craft(14) + 1");
        ticked("8, 1, 3", 8, 1, Kit.join(b(3), Kit.four(7)), "craft(14) + 1", "counted(6) + 1");
        ticked("12, 2", 12, 2, b(0), "watch 0(0) = 1");
        ticked("12, 13", 12, 13, NOTHING, "craft(14) + 1");
        ticked("19, 2", 19, 2, b(3), "event 3(1) = 0", "event 3(2) = 0", "event 3(3) = 0");
        ticked("19, 5", 19, 5, b(3), "event 3(2) = 0");
    }

    private static void servicesOfTheScheduleAndStores() {
        Kit.about("6 SERVICES 11, 15: what a request changes, and a tick");
        ticked("11, 2", 11, 2, NOTHING, "schedule(1) = 0");
        ticked("11, 3", 11, 3, NOTHING, "schedule(0) = 0", "entry 0(0) = -1", "entry 0(1) = -1", "entry 0(2) = -1", "counted(5) = 0");
        ticked("11, 15", 11, 15, Kit.four(6), "entry 0(0) + 6");
        ticked("11, 16", 11, 16, NOTHING, "craft(14) + 1");
        ticked("11, 21", 11, 21, b(2), "schedule(4) = 0");
        ticked("15, 2", 15, 2, b(0), "store 0(1) = 0");
        ticked("15, 3", 15, 3, b(0, 1, 1), "store 0(5) + 1");
        ticked("15, 11", 15, 11, Kit.join(b(0), Kit.four(9999)), "store 0(2) = 0", "store 0(3) = 0", "store 0(6) = -2", "store 0(7) = -2");
    }
}
