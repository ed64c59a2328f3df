import java.util.Arrays;
import java.util.LinkedHashMap;
import java.util.Map;
import java.util.function.Consumer;
import java.util.function.ToIntFunction;
import java.util.stream.Stream;

/**
 * What a call changes, and that it changes nothing else: on an object of which nearly all that can be asked is not 0,
 * so that a count which goes back to 0 would be seen, too.
 */
public final class OnlyThatTest extends Trip {
    private static final Map<String, ToIntFunction<CraftHouse>> ASKED = asked();
    private static final String[] EMPTY_TAPE = {"taped(0) = -1", "check = 65535"};

    private OnlyThatTest() {
    }

    public static void main(String[] args) throws Exception {
        Kit.runAll(OnlyThatTest.class);
    }

    private static Map<String, ToIntFunction<CraftHouse>> asked() {
        Map<String, ToIntFunction<CraftHouse>> all = new LinkedHashMap<>();
        all.put("bits(0)", x -> x.bits(0));
        all.put("bits(1)", x -> x.bits(1));
        all.put("requests", CraftHouse::requests);
        all.put("check", CraftHouse::check);
        all.put("taped(0)", x -> x.taped(0));
        all.put("memory(7)", x -> x.memory(7));
        rows(all, "machine", 14, CraftHouse::machine);
        rows(all, "came", 11, CraftHouse::came);
        rows(all, "craft", 16, CraftHouse::craft);
        rows(all, "parameter", 1, CraftHouse::parameter);
        all.put("parameter(3)", x -> x.parameter(3));
        rows(all, "counted", 8, (x, i) -> x.parameter(16 + i));
        rows(all, "structure 2", 6, (x, i) -> x.structure(2, i));
        rows(all, "watch 4", 7, (x, i) -> x.watch(4, i));
        rows(all, "event 3", 4, (x, i) -> x.event(3, i));
        rows(all, "event 0", 1, (x, i) -> x.event(0, i));
        rows(all, "event 9", 1, (x, i) -> x.event(9, i));
        rows(all, "schedule", 6, (x, i) -> x.entry(NONE, i));
        rows(all, "entry 0", 3, (x, i) -> x.entry(0, i));
        rows(all, "store 1", 8, (x, i) -> x.store(1, i));
        rows(all, "shown 3", 3, (x, i) -> x.shown(3, i));
        rows(all, "newest", 6, (x, i) -> x.archived(0, i));
        rows(all, "code", 4, (x, i) -> x.became(i, 1));
        return all;
    }

    private interface Row {
        int at(CraftHouse x, int i);
    }

    private static void rows(Map<String, ToIntFunction<CraftHouse>> all, String name, int n, Row row) {
        for (int i = 0; i < n; i++) {
            int place = i;
            all.put(name + "(" + i + ")", x -> row.at(x, place));
        }
    }

    /** Each change: a name and "= value", "+ value", "- value"; or a name and "?": it may be any. */
    private static void only(String what, CraftHouse x, Consumer<CraftHouse> step, String... changes) {
        Map<String, Integer> want = new LinkedHashMap<>();
        ASKED.forEach((name, ask) -> want.put(name, ask.applyAsInt(x)));
        for (String change : changes) {
            String[] words = change.split(" (?=[=+?-])|(?<=[=+-]) ");
            due("there is what changes: " + words[0], want.containsKey(words[0]) ? 1 : 0, 1);
            want.compute(words[0], (name, was) -> changed(was, words));
        }
        step.accept(x);
        want.forEach((name, v) -> due(what + ": " + name, ASKED.get(name).applyAsInt(x), v));
    }

    /** Nothing, if it may be any. */
    private static Integer changed(int was, String[] words) {
        switch (words[1]) {
            case "?": return null;
            case "=": return Integer.parseInt(words[2]);
            case "+": return was + Integer.parseInt(words[2]);
            default: return was - Integer.parseInt(words[2]);
        }
    }

    // ---- objects that have been used

    /** Much has been on board and on the ground; nothing is on the lines, THE TAPE is empty, the machine is OFF. */
    private static CraftHouse worn() {
        CraftHouse x = new CraftHouse();
        x.direct(8, 1);
        x.direct(9, 1);
        x.direct(6, 199);
        x.direct(0, 0);
        x.request(17, 1, 0, false);
        x.tick(1);
        x.lose(0, 272);
        for (int[] each : new int[][] {{7, 3}, {8, 30}, {9, 5}, {10, 1}, {11, 20}}) {
            x.direct(each[0], each[1]);
        }
        send(x, 0, 99, 1);
        send(x, 0, 8, 1, b(1), Kit.four(44));
        send(x, 0, 8, 1, b(3), Kit.four(35));
        send(x, 0, 3, 1, b(2), Kit.two(50), b(1, 3));
        send(x, 0, 8, 1, b(7), Kit.four(0));
        x.tick(1);
        send(x, 0, 3, 5, b(2));
        send(x, 0, 12, 5, watch(4, 3, 1, 9, 2, 4));
        send(x, 0, 12, 1, b(4));
        send(x, 0, 19, 1, b(3, 1), TEST);
        x.tick(1);
        send(x, 0, 11, 4, b(1), Kit.four(5000), TEST);
        send(x, 0, 11, 1);
        send(x, 0, 15, 12, b(1, 1));
        send(x, 0, 15, 3, b(1, 17, 2));
        x.tick(1);
        send(x, 0, 15, 1, b(1));
        send(x, 0, 20, 3, b(1, 3), Kit.four(5));
        send(x, 0, 20, 1, b(1, 3));
        send(x, 0, 6, 2, Kit.two(7), b(1, 77));
        x.tick(1);
        send(x, 0, 5, 6, b(9));
        send(x, 0, 11, 21, b(3));
        x.tick(1);
        x.carry(1, 64000);
        wornUp(x);
        wornDown(x);
        return x;
    }

    private static void wornUp(CraftHouse x) {
        // a BAD frame, its block mended; V 9, AGAIN
        Kit.inject(x, 0, Kit.unit(Kit.filled(NOTHING, 7, 0)));
        x.turn(0, 20);
        x.carry(0, 32000);
        set(x, 9);
        number(x, 10);
        // more packets than LIVE has room for, one more with BYPASS than REQUESTS has
        for (int i = 0; i < 8; i++) {
            ask(x, 17, 1);
        }
        x.tick(2);
        for (int i = 0; i < 9; i++) {
            send(x, 0, 17, 1);
        }
        x.tick(2);
    }

    /** A BAD packet, a BAD frame, one that is lost; the mark of the last one was missed, its report is not 0. */
    private static void wornDown(CraftHouse x) {
        x.carry(1, 1088);
        x.turn(1, 60);
        x.carry(1, 544);
        x.lose(1, 544);
        down(x, 1, 0, 0, Kit.join(Kit.hex("080CC000000000"), idle(45)));
        x.ear(0, 1);
        x.ear(1, 2);
        x.tick(6);
        x.turn(1, 5 * 544);
        x.turn(1, 5 * 544 + 1);
        x.carry(1, 64000);
    }

    /** Used, and at work: FRAMES are SENT, requests wait, a unit has come in part, THE TAPE and the lines have something. */
    private static CraftHouse busy() {
        CraftHouse x = worn();
        x.direct(0, 0);
        for (int i = 0; i < 5; i++) {
            x.request(17, 1, 0, false);
        }
        x.lose(0, 32000);
        send(x, 0, 15, 9, b(1), Kit.four(0), Kit.four(9999));
        x.tick(1);
        send(x, 0, 17, 1);
        x.request(17, 1, 0, true);
        x.carry(0, 16 + 64);
        x.feed(0x010203, 3);
        return x;
    }

    private static void usedObjects() {
        Kit.about("what the tests of this class begin with: nearly all that can be asked is not 0");
        String noughts = " machine(5) machine(9) craft(1) craft(2) event 9(0) schedule(5) store 1(4) newest(0) code(0) code(2) code(3)";
        StringBuilder found = new StringBuilder();
        CraftHouse x = busy();
        ASKED.forEach((name, ask) -> found.append(ask.applyAsInt(x) == 0 ? " " + name : ""));
        due("noughts:" + found, found.toString().equals(noughts) ? 1 : 0, 1);
        dueMachine("busy", x, 1, 203, 200, 1, 29, 0, 6, 3, 2, 0, 5, 3, 30, 1);
    }

    // ---- calls

    private static String[] join(String[] some, String... others) {
        return Stream.concat(Arrays.stream(some), Arrays.stream(others)).toArray(String[]::new);
    }

    private static void theTape() {
        Kit.about("promises 2 to 6, 14, 15: what calls with THE TAPE change");
        only("feed", busy(), x -> x.feed(4, 1), "check = " + Kit.checkOf(b(1, 2, 3, 4)));
        only("check", busy(), CraftHouse::check);
        only("wipe", busy(), CraftHouse::wipe, EMPTY_TAPE);
        only("code", busy(), x -> x.code(0), "taped(0) = " + 0xEB, "check = " + Kit.checkOf(Kit.unit(b(1, 2, 3))));
        only("inject up", busy(), x -> x.inject(0), join(EMPTY_TAPE, "bits(0) + 24"));
        only("inject down", busy(), x -> x.inject(1), join(EMPTY_TAPE, "bits(1) + 24"));
        CraftHouse y = busy();
        byte[] packet = Kit.packetUp(y.requests(), 9, 17, 1, b(1, 2, 3));
        only("build", y, x -> x.build(17, 1, 9), "requests + 1", "taped(0) = 24", "check = " + Kit.checkOf(packet));
        Kit.dueTape("build", y, packet);
        due("its code", y.became(y.requests() - 1, 1), 0);
        only("request", busy(), x -> x.request(17, 1, 9, false), join(EMPTY_TAPE, "requests + 1", "machine(8) + 1"));
        // 16 bytes of a packet, 23 of a frame: four blocks
        only("BYPASS", busy(), x -> x.request(17, 1, 9, true), join(EMPTY_TAPE, "requests + 1", "bits(0) + 336"));
    }

    private static void theLines() {
        Kit.about("promises 9 to 12: what calls with lines change");
        only("turn", busy(), x -> x.turn(1, 0));
        only("slip", busy(), x -> x.slip(1, 0), "bits(1) - 1");
        only("lose", busy(), x -> x.lose(1, 10), "bits(1) - 10");
        only("lose up", busy(), x -> x.lose(0, 10), "bits(0) - 10");
        only("carry nothing", busy(), x -> x.carry(0, 0));
        only("carry a bit down", busy(), x -> x.carry(1, 1), "bits(1) - 1");
        only("carry a bit up", busy(), x -> x.carry(0, 1), "bits(0) - 1");
        only("carry a BLOCK", busy(), x -> x.carry(0, 64), "bits(0) - 64", "craft(11) + 7");
    }

    private static void directives() {
        Kit.about("promises 18, 20, 26: what directives, ear, sense change");
        only("K", busy(), x -> x.direct(7, 9), "machine(11) = 9");
        only("TIME", busy(), x -> x.direct(8, 9), "machine(12) = 9");
        only("LIMIT", busy(), x -> x.direct(9, 9), "machine(10) = 9");
        only("KIND", busy(), x -> x.direct(10, 0), "machine(13) = 0");
        only("W", busy(), x -> x.direct(11, 30), "craft(5) = 30");
        only("begin, in 1", busy(), x -> x.direct(0, 0));
        only("S and A", worn(), x -> x.direct(6, 33), "machine(1) = 33", "machine(2) = 33");
        only("begin", worn(), x -> x.direct(0, 0), "machine(0) = 1");
        only("begin with a look", worn(), x -> x.direct(1, 0), "machine(0) = 4", "machine(4) = 30");
        // eight and ten bytes of a frame: two blocks
        only("UNLOCK", worn(), x -> x.direct(2, 0), "machine(0) = 5", "machine(4) = 30", "bits(0) + 208");
        only("SET", worn(), x -> x.direct(3, 33), "machine(0) = 5", "machine(1) = 33", "machine(2) = 33", "machine(4) = 30",
            "bits(0) + 208");
        only("end", busy(), x -> x.direct(4, 0), alarm(7));
        only("E", busy(), x -> x.ear(0, 3));
        only("F", busy(), x -> x.ear(1, 3));
        only("sense", busy(), x -> x.sense(3, 6), "parameter(3) = 6");
    }

    private static String[] alarm(int n) {
        return new String[] {"machine(0) = 6", "machine(2) = 203", "machine(4) = 0", "machine(6) = " + n, "machine(7) = 0",
            "machine(8) = 0"};
    }

    private static void asking() {
        Kit.about("what calls that ask change: nothing");
        only("of requests", busy(), x -> {
            for (int i = 0; i < 4; i++) {
                x.became(x.requests() - 1, i);
            }
        });
        only("of what came", busy(), x -> {
            x.archivedByte(0, 0);
            x.archived(1, 3);
            x.shown(4, 0);
        });
        only("of lines", busy(), x -> {
            x.bit(0, 0);
            x.bit(1, 9);
        });
    }

    private static void beginningsAnswered() {
        Kit.about("3 THE GROUND'S MACHINE: what a REPORT changes in 4 and 5");
        for (int directive = 1; directive <= 2; directive++) {
            CraftHouse x = worn();
            x.direct(directive, 0);
            brought("in " + (directive + 3), with(x, 7, 0, FIVES, b(1, 0, 0, 200)), report(0, 200, "machine(0) = 1", "machine(4) = 0"));
        }
    }

    private static void held() {
        Kit.about("3 THE GROUND'S MACHINE: what the TIMER's end changes with KIND 1, and calls while HOLD is 1");
        CraftHouse x = worn();
        x.direct(8, 1);
        x.direct(9, 1);
        x.direct(0, 0);
        x.request(17, 1, 0, false);
        only("the TIMER ends", x, each -> each.tick(1), "machine(0) = 6", "machine(4) = 0", "machine(5) = 1", "counted(7) + 1",
            "bits(1) + 544", "craft(7) ?", "structure 2(3) - 1", "watch 4(6) + 1");
        CraftHouse y = worn();
        y.direct(8, 1);
        y.direct(9, 1);
        y.direct(0, 0);
        y.request(17, 1, 0, false);
        y.tick(1);
        only("BYPASS", y, each -> each.request(17, 1, 0, true), "requests + 1", "bits(0) + 272");
    }

    // ---- a unit comes up

    /** B is one more, a unit was begun, the line is empty. */
    private static String[] unitWithB(CraftHouse x, String... changes) {
        return unit(join(changes, "craft(4) = " + (x.craft(4) + 1 & 3)));
    }

    private static String[] unit(String... changes) {
        return join(changes, "bits(0) = 0", "craft(13) + 1");
    }

    /** With a frame on the line. */
    private static CraftHouse with(CraftHouse x, byte[] frame) {
        Kit.inject(x, 0, Kit.unit(frame));
        return x;
    }

    private static void raised(String what, CraftHouse x, String... changes) {
        only(what, x, each -> each.carry(0, 32000), changes);
    }

    private static void unitsWithControl() {
        Kit.about("2 UP: what a FRAME with CONTROL changes, and a BAD one");
        CraftHouse unlock = with(worn(), Kit.frame(true, true, 0, b(0)));
        raised("UNLOCK", unlock, unitWithB(unlock, "craft(3) = 0"));
        CraftHouse set = with(worn(), Kit.frame(true, true, 0, b(0x82, 0, 77)));
        raised("SET", set, unitWithB(set, "craft(0) = 77", "craft(3) = 0"));
        raised("BAD", with(worn(), Kit.frame(false, true, 0, b(0))), unit("counted(1) + 1"));
        raised("BAD, too long", with(worn(), b(0, 0xAB, 0, 200, 0, 0, 0)), unit("counted(1) + 1"));
        CraftHouse locked = worn();
        number(locked, 100);
        raised("SET, LOCKOUT", with(locked, Kit.frame(true, true, 0, b(0x82, 0, 77))), unitWithB(locked));
    }

    private static void unitsWithNumbers() {
        Kit.about("2 UP: what a FRAME with N changes");
        String[] taken = {"craft(6) + 1", "counted(0) + 1"};
        raised("due", with(worn(), Kit.frame(false, false, 9, TEST)), unit(join(taken, "craft(0) = 10", "craft(3) = 0")));
        raised("ahead", with(worn(), Kit.frame(false, false, 10, TEST)), unit());
        raised("behind", with(worn(), Kit.frame(false, false, 8, TEST)), unit());
        raised("far", with(worn(), Kit.frame(false, false, 100, TEST)), unit("craft(1) = 1"));
        CraftHouse locked = worn();
        number(locked, 100);
        raised("LOCKOUT", with(locked, Kit.frame(false, false, 9, TEST)), unit());
        CraftHouse bypass = with(worn(), Kit.frame(true, false, 0, TEST));
        bypass.turn(0, 50);
        raised("BYPASS, mended", bypass, unitWithB(bypass, join(taken, "craft(12) + 1")));
        CraftHouse refused = with(worn(), Kit.frame(true, false, 0, b(1)));
        raised("BYPASS, REFUSED", refused, unitWithB(refused, "counted(0) + 1", "counted(2) + 1", "craft(7) + 1", "craft(14) + 1"));
        CraftHouse part = busy();
        raised("the rest of a unit", part, "bits(0) = 0", "craft(4) = " + (part.craft(4) + 1 & 3), "craft(6) + 1", "craft(10) = 0",
            "craft(11) = 0", "counted(0) + 1");
    }

    private static void unitsWithoutRoom() {
        Kit.about("2 UP: what a FRAME changes that finds no room in REQUESTS");
        for (boolean bypass : new boolean[] {false, true}) {
            CraftHouse x = worn();
            for (int i = 0; i < 8; i++) {
                send(x, 0, 17, 1);
            }
            with(x, Kit.frame(bypass, false, 9, TEST));
            raised("BYPASS " + bypass, x, bypass ? unitWithB(x, "craft(15) + 1") : unit("craft(2) = 1"));
        }
    }

    // ---- a frame comes down

    /** With a frame on the line, and nothing else. */
    private static CraftHouse with(CraftHouse x, int channel, int own, byte[] content, byte[] report) {
        x.lose(1, 64000);
        x.wipe();
        Kit.inject(x, 1, Kit.frameDown(channel, 0, own, 0, content, report));
        return x;
    }

    private static void brought(String what, CraftHouse x, String... changes) {
        only(what, x, each -> each.carry(1, 64000), join(changes, "bits(1) = 0", "came(1) = 0", "came(2) + 1"));
    }

    private static String[] report(int bits, int v, String... changes) {
        return join(changes, "came(8) + 1", "came(9) = " + v, "came(10) = " + bits / 2);
    }

    private static void framesThatCome() {
        Kit.about("4 DOWN, 7 THE GROUND: what a FRAME changes that came");
        byte[] flags = b(1, 0, LOCKOUT | WAIT, 5);
        brought("IDLE", with(worn(), 7, 0, FIVES, flags), report(LOCKOUT | WAIT, 5));
        brought("without a REPORT", with(worn(), 7, 0, FIVES, b(1, 1, 0, 5)));
        CraftHouse bad = with(worn(), 7, 0, FIVES, flags);
        bad.turn(1, 500);
        brought("BAD", bad, "came(3) + 1");
        brought("of STORED", with(worn(), 1, 1, idle(52), flags), report(LOCKOUT | WAIT, 5));
        brought("of STORED, a GAP", with(worn(), 1, 9, idle(52), flags), report(LOCKOUT | WAIT, 5, "came(4) + 1"));
        byte[] packet = Kit.packetDown(0x777, 17, 2, 6, NOTHING);
        String[] archived = {"came(5) + 1", "newest(0) = 1", "newest(1) = 17", "newest(2) = 2", "newest(3) = 6", "newest(4) = " + 0x777,
            "newest(5) = 15"};
        brought("a packet", with(worn(), 1, 1, Kit.join(packet, idle(37)), flags), report(LOCKOUT | WAIT, 5, archived));
        byte[] wrong = Kit.filled(packet, 15, 0);
        wrong[14] ^= 1;
        brought("a BAD packet", with(worn(), 1, 1, Kit.join(wrong, idle(37)), flags), report(LOCKOUT | WAIT, 5, "came(6) + 1"));
    }

    private static void valuesThatCome() {
        Kit.about("7 THE GROUND: what packets change that are SHOWN or tell of requests");
        byte[] value = Kit.packetDown(0x777, 20, 2, 999, Kit.join(b(1, 3), Kit.four(-8)));
        brought("20, 2", with(worn(), 1, 1, Kit.join(value, idle(31)), b(1, 0, 0, 5)), report(0, 5, "came(5) + 1", "newest(0) = 1",
            "newest(1) = 20", "newest(2) = 2", "newest(3) = 999", "newest(4) = " + 0x777, "newest(5) = 21", "shown 3(1) = -8",
            "shown 3(2) = 999"));
        byte[] told = Kit.packetDown(0x777, 1, 8, 999, Kit.join(b(0, 3), b(99)));
        brought("1, 8", with(worn(), 1, 1, Kit.join(told, idle(34)), b(1, 0, 0, 5)), report(0, 5, "came(5) + 1", "newest(0) = 1",
            "newest(1) = 1", "newest(2) = 8", "newest(3) = 999", "newest(4) = " + 0x777, "newest(5) = 18", "code(3) = 99"));
    }

    private static void reportsAtWork() {
        Kit.about("3 THE GROUND'S MACHINE: what a REPORT changes (K 3, LIMIT 5, SENT 200 .. 202, two wait)");
        reported("x = A", 0, 200);
        reported("one acknowledged", 0, 201, "machine(1) = 204", "machine(2) = 201", "machine(4) = 30", "machine(8) = 1", "bits(0) + 272");
        reported("all", 0, 203, "machine(1) = 205", "machine(2) = 203", "machine(4) = 30", "machine(7) = 2", "machine(8) = 0",
            "bits(0) + 544");
        reported("AGAIN", AGAIN, 200, "machine(0) = 2", "machine(3) = 2", "machine(4) = 30", "bits(0) + 816");
        reported("AGAIN, one acknowledged", AGAIN, 201, "machine(0) = 2", "machine(1) = 204", "machine(2) = 201", "machine(3) = 2",
            "machine(4) = 30", "machine(8) = 1", "bits(0) + 816");
        reported("AGAIN, WAIT", AGAIN | WAIT, 200, "machine(0) = 3");
        reported("LOCKOUT", LOCKOUT, 200, alarm(1));
        reported("none of A .. S", 0, 199, alarm(2));
        reported("all, AGAIN", AGAIN, 203, alarm(3));
        reported("WAIT", WAIT, 202, alarm(4));
    }

    private static void reported(String what, int bits, int v, String... changes) {
        brought(what, with(busy(), 7, 0, FIVES, b(1, 0, bits, v)), report(bits, v, changes));
    }

    // ---- a tick on board

    /** A request is on board, the only one; what it changes, beside what each tick does. */
    private static void ticked(String what, int service, int subtype, byte[] data, String... changes) {
        CraftHouse x = worn();
        send(x, 0, service, subtype, data);
        boolean done = service != 8 || data[0] != 2;
        only(what, x, each -> each.tick(1), join(changes, "counted(7) + 1", done ? "counted(4) + 1" : "counted(3) + 1", "bits(1) + 544",
            "craft(6) = 0", "craft(7) ?", "structure 2(3) - 1", service == 12 ? "watch 4(6) ?" : "watch 4(6) + 1"));
    }

    private static void services() {
        Kit.about("6 SERVICES: what a request changes, and a tick");
        ticked("17, 1", 17, 1, NOTHING, "craft(14) + 1", "store 1(2) + 1", "store 1(3) + 15", "store 1(7) ?");
        ticked("20, 3", 20, 3, Kit.join(b(1, 3), Kit.four(6)), "parameter(3) = 6");
        ticked("20, 1", 20, 1, b(1, 3), "craft(14) + 1");
        ticked("6, 2", 6, 2, b(0, 7, 1, 78), "memory(7) = 78");
        ticked("6, 9", 6, 9, b(0, 7, 0, 1), "craft(14) + 1");
        ticked("3, 6", 3, 6, b(2), "structure 2(1) = 0");
        ticked("3, 27", 3, 27, b(2), "craft(14) + 1");
        ticked("5, 6", 5, 6, b(3), "event 3(0) = 0");
        ticked("8, 1, 0", 8, 1, Kit.join(b(0), Kit.four(6)));
        ticked("8, 1, 1", 8, 1, Kit.join(b(1), Kit.four(6)), "parameter(0) = 6");
        ticked("8, 1, 2", 8, 1, Kit.join(b(2), Kit.four(6)), "craft(14) + 1");
        ticked("8, 1, 3", 8, 1, Kit.join(b(3), Kit.four(7)), "craft(14) + 1", "counted(6) + 1");
        ticked("12, 2", 12, 2, b(4), "watch 4(0) = 1");
        ticked("12, 13", 12, 13, NOTHING, "craft(14) + 1");
        ticked("19, 2", 19, 2, b(3), "event 3(1) = 0", "event 3(2) = 0", "event 3(3) = 0");
        ticked("19, 5", 19, 5, b(3), "event 3(2) = 0");
    }

    private static void servicesOfTheScheduleAndStores() {
        Kit.about("6 SERVICES 11, 15: what a request changes, and a tick");
        ticked("11, 2", 11, 2, NOTHING, "schedule(1) = 0");
        ticked("11, 3", 11, 3, NOTHING, "schedule(0) = 0", "entry 0(0) = -1", "entry 0(1) = -1", "entry 0(2) = -1", "counted(5) = 0");
        ticked("11, 15", 11, 15, Kit.four(6), "entry 0(0) + 6");
        ticked("11, 16", 11, 16, NOTHING, "craft(14) + 1");
        ticked("11, 21", 11, 21, b(2), "schedule(4) = 0");
        ticked("15, 2", 15, 2, b(1), "store 1(1) = 0");
        ticked("15, 3", 15, 3, b(1, 1, 1), "store 1(5) + 1");
        ticked("15, 9", 15, 9, Kit.join(b(1), Kit.four(0), Kit.four(9999)), "craft(8) = " + (worn().store(1, 2) - 4));
        ticked("15, 11", 15, 11, Kit.join(b(1), Kit.four(9999)), "store 1(2) = 0", "store 1(3) = 0", "store 1(6) = -2", "store 1(7) = -2");
    }

    // ---- used objects go on as new ones do

    /** With an ALARM, KIND 1, LIMIT 5, S and A 7; TIME 9. */
    private static CraftHouse usedMachine() {
        CraftHouse x = new CraftHouse();
        for (int[] each : new int[][] {{1, 0}, {4, 0}, {6, 7}, {10, 1}, {9, 5}, {8, 9}, {0, 0}}) {
            x.direct(each[0], each[1]);
        }
        return x;
    }

    private static void dueUnit(String what, CraftHouse x, byte[] frame) {
        byte[] unit = Kit.unit(frame);
        due(what + ": bits", x.bits(0), 8 * unit.length);
        Kit.dueBytes(what, Kit.onLine(x, 0, 0, unit.length), unit);
    }

    private static void framesOfUsedMachines() {
        Kit.about("3 THE GROUND'S MACHINE: the FRAMES of one that has been used");
        CraftHouse number = usedMachine();
        number.request(17, 1, 0, false);
        dueUnit("N 7", number, Kit.frame(false, false, 7, Kit.packetUp(0, 0, 17, 1, NOTHING)));
        CraftHouse bypass = usedMachine();
        bypass.request(17, 1, 0, false);
        bypass.lose(0, 32000);
        bypass.request(17, 1, 0, true);
        dueUnit("BYPASS", bypass, Kit.frame(true, false, 0, Kit.packetUp(1, 0, 17, 1, NOTHING)));
        CraftHouse control = usedMachine();
        control.direct(4, 0);
        control.direct(2, 0);
        dueUnit("UNLOCK", control, Kit.frame(true, true, 0, b(0)));
        CraftHouse held = usedMachine();
        held.direct(9, 1);
        held.request(17, 1, 0, false);
        held.tick(9);
        held.lose(0, 32000);
        due("HOLD", held.machine(5), 1);
        held.request(17, 1, 0, true);
        dueUnit("BYPASS, HELD", held, Kit.frame(true, false, 0, Kit.packetUp(1, 0, 17, 1, NOTHING)));
        due("HOLD stays", held.machine(5), 1);
        held.tick(1);
        due("HOLD stays", held.machine(5), 1);
    }

    private static void acknowledgedByUsedMachines() {
        Kit.about("3 THE GROUND'S MACHINE: CLEAR of one that has been used");
        CraftHouse x = usedMachine();
        for (int i = 0; i < 3; i++) {
            x.request(17, 1, 0, false);
        }
        bring(x, AGAIN, 7);
        dueMachine("REPEAT", x, 2, 10, 7, 2, 9, 0, 7, 3, 0, 0);
        bring(x, 0, 8);
        dueMachine("one", x, 1, 10, 8, 1, 9, 0, 7, 2, 0, 0);
        due("became(0, 0)", x.became(0, 0), 3);
        due("became(1, 0)", x.became(1, 0), 2);
        bring(x, 0, 10);
        dueMachine("all: the TIMER is off", x, 1, 10, 10, 1, 0, 0, 7, 0, 0, 0);
        due("became(1, 0)", x.became(1, 0), 3);
        due("became(2, 0)", x.became(2, 0), 3);
    }

    private static void manyOfUsedMachines() {
        Kit.about("3 THE GROUND'S MACHINE, GO: all 32 are sent, though the TIMER was on; COUNT stays, SENT was not empty");
        CraftHouse x = usedMachine();
        x.direct(7, 1);
        x.direct(8, 1000);
        for (int i = 0; i < 33; i++) {
            x.request(17, 1, 0, false);
        }
        bring(x, AGAIN, 7);
        x.direct(7, 32);
        x.request(17, 1, 0, false);
        dueMachine("no room", x, 2, 8, 7, 2, 1000, 0, 7, 1, 32, 0);
        bring(x, 0, 7);
        due("ALARM 3", x.machine(6), 3);
        CraftHouse y = usedMachine();
        y.direct(7, 1);
        y.direct(8, 1000);
        for (int i = 0; i < 33; i++) {
            y.request(17, 1, 0, false);
        }
        y.direct(7, 32);
        y.lose(0, 32000);
        bring(y, AGAIN, 7);
        dueMachine("all go", y, 2, 39, 7, 2, 1000, 0, 7, 32, 1, 0);
        due("units", y.bits(0), 32 * 272);
    }

    private static void marksOfUsedEars() {
        Kit.about("2 UP, 4 DOWN: the latest bits since it is SEARCHING, of ears that have been used");
        CraftHouse x = worn();
        Kit.inject(x, 0, Kit.hex("EB90"));
        x.slip(0, 0);
        only("15 bits of EB 90", x, each -> each.carry(0, 15), "bits(0) = 0");
        for (int what = 0; what <= 1; what++) {
            CraftHouse y = new CraftHouse();
            y.tick(1);
            y.carry(1, 20);
            y.ear(what, 0);
            y.carry(1, 11);
            due("31 bits", y.came(0), 0);
            y.carry(1, 1);
            due("32 bits: LOCKED", y.came(0), 1);
            y.carry(1, 300);
            y.ear(what, 0);
            y.carry(1, 211);
            due("511 bits", y.came(2), 0);
            y.carry(1, 1);
            due("512 bits", y.came(2), 1);
            due("BAD ones", y.came(3), 0);
        }
        CraftHouse z = new CraftHouse();
        z.request(17, 1, 0, true);
        z.carry(0, 10);
        z.tick(1);
        z.carry(0, 100);
        z.tick(1);
        z.carry(0, 32000);
        due("TAKEN", z.parameter(16), 1);
        due("BAD ones", z.parameter(17), 0);
    }

    private static void missesOfUsedEars() {
        Kit.about("4 DOWN, more MISSES than F: SEARCHING, MISSES 0: what that changes");
        CraftHouse x = worn();
        x.tick(2);
        x.ear(1, 1);
        x.turn(1, 0);
        x.turn(1, 1);
        only("one too many", x, each -> each.carry(1, 32), "bits(1) - 32", "came(0) = 0", "came(1) = 0");
    }

    private static void packetsOnUsedGrounds() {
        Kit.about("7 THE GROUND: of one to which a BAD packet came, and that made requests");
        CraftHouse x = new CraftHouse();
        x.build(17, 1, 0);
        x.wipe();
        alone(x, 0, Kit.hex("080CC000000000"));
        alone(x, 1, Kit.packetDown(0, 20, 2, 5, Kit.join(b(1, 3), Kit.four(-8))));
        due("MISSING, the first", x.came(7), 0);
        alone(x, 2, Kit.packetDown(5, 20, 2, 4, Kit.join(b(1, 3), Kit.four(-9))));
        due("MISSING, 1 to 4", x.came(7), 4);
        due("SHOWN, of a later TICK", x.shown(3, 1), -8);
        due("SHOWN, its TICK", x.shown(3, 2), 5);
        alone(x, 3, Kit.packetDown(6, 20, 2, 5, Kit.join(b(1, 3), Kit.four(-10))));
        due("SHOWN, of the same TICK", x.shown(3, 1), -10);
        due("MISSING", x.came(7), 4);
    }

    private static void archivesOfUsedGrounds() {
        Kit.about("7 THE GROUND, ARCHIVED (the latest 40 are kept), where a BAD packet came and some are MISSING");
        CraftHouse x = new CraftHouse();
        alone(x, 255, Kit.hex("080CC000000000"));
        act(x, 3, 1, b(0), Kit.two(1), b(1, 23));
        act(x, 3, 5, b(0));
        x.tick(3);
        x.carry(1, 64000);
        x.tick(1);
        x.lose(1, 544);
        x.tick(60);
        x.carry(1, 64000);
        due("MISSING", x.came(7), 1);
        due("BAD ones", x.came(6), 1);
        int newest = x.archived(0, 4);
        for (int i = 0; i < 40; i++) {
            due("COUNT of " + i, x.archived(i, 4), newest - i);
        }
        due("no more", x.archived(40, 4), BAD);
    }

    private static void idlePacketsOfUsedCrafts() {
        Kit.about("4 DOWN, an IDLE PACKET: bytes 00, of a craft that has lost packets of LIVE");
        CraftHouse x = new CraftHouse();
        for (int i = 0; i < 8; i++) {
            ask(x, 17, 1);
        }
        x.tick(2);
        due("lost", x.craft(9) > 0 ? 1 : 0, 1);
        x.tick(60);
        x.lose(1, 64000);
        act(x, 17, 1);
        // what was over of the idle packet before stands ahead
        int first = partAt(x, 0, 5, 6)[0];
        Kit.dueBytes("its bytes", partAt(x, 0, 6 + first + 15, 58), idle(37 - first));
    }

    private static void servicesWithAnEventOff() {
        Kit.about("6 SERVICES: with an event and a group that are off all others are as ever");
        CraftHouse x = new CraftHouse();
        act(x, 5, 6, b(9));
        act(x, 11, 21, b(3));
        dueDone("a p that is none", 10, x, 20, 1, b(2, 3, 24));
        dueDone("a p above 15", 10, x, 20, 3, Kit.join(b(2, 3), Kit.four(77), b(16), Kit.four(1)));
        dueDone("", 0, x, 20, 3, Kit.join(b(2, 3), Kit.four(77), b(5), Kit.four(-1)));
        dueDone("", 0, x, 20, 1, b(2, 5, 3));
        dueReport("20, 2", x, 20, 2, Kit.join(b(2, 5), Kit.four(-1), b(3), Kit.four(77)));
        dueReport("1, 1", x, 1, 1, Kit.two(0xC000 | x.requests() - 1));
        dueReport("1, 3", x, 1, 3, Kit.two(0xC000 | x.requests() - 1));
        dueReport("1, 7", x, 1, 7, Kit.two(0xC000 | x.requests() - 1));
        dueDone("a p that is none", 10, x, 3, 1, b(5, 0, 1, 2, 3, 24));
        dueDone("", 0, x, 3, 1, b(5, 0, 9, 2, 3, 5));
        dueStructure(x, 5, 1, 0, 9, 0, 2, 3, 5);
        dueDone("it is there", 13, x, 3, 1, b(5, 0, 9, 2, 3, 5));
        dueDone("", 0, x, 3, 5, b(5));
        dueDone("it is on", 13, x, 3, 3, b(5));
        dueDone("", 0, x, 3, 27, b(5));
        dueReport("3, 25", x, 3, 25, Kit.join(b(5, 2, 3), Kit.four(77), b(5), Kit.four(-1)));
        dueDone("", 0, x, 3, 6, b(5));
        dueDone("", 0, x, 3, 3, b(5));
        dueStructure(x, 5, 0, BAD);
        dueDone("beyond", 11, x, 6, 2, b(4, 0, 1, 9));
        dueDone("protected", 12, x, 6, 2, b(3, 0, 1, 9));
        dueDone("no such function", 15, x, 8, 1, Kit.join(b(4), Kit.four(0)));
        dueDone("", 0, x, 8, 1, Kit.join(b(3), Kit.four(40)));
        dueReport("5, 2", x, 5, 2, Kit.join(b(8), Kit.four(40)));
        dueDone("none such", 14, x, 5, 5, b(32));
    }

    private static void watchesWithAnEventOff() {
        Kit.about("6 SERVICES 12, 19, 11, 15: with an event and a group that are off all others are as ever");
        CraftHouse x = new CraftHouse();
        act(x, 5, 6, b(9));
        act(x, 11, 21, b(3));
        dueDone("times 0", 18, x, 12, 5, watch(5, 3, 1, 9, 0, 4));
        dueDone("", 0, x, 12, 5, watch(5, 3, 1, 9, 200, 4));
        dueDone("it is there", 17, x, 12, 5, watch(5, 3, 1, 9, 2, 4));
        dueWatch(x, 5, 1, 3, 1, 9, 200, 4, 0);
        dueDone("", 0, x, 12, 1, b(5));
        dueDone("it is on", 17, x, 12, 6, b(5));
        dueDone("", 0, x, 12, 13);
        dueReport("12, 14", x, 12, 14, b(0, 0, 0, 0, 0, 2));
        dueDone("", 0, x, 12, 2, b(5));
        dueWatch(x, 5, 1, 3, 1, 9, 200, 4, 0);
        dueDone("", 0, x, 12, 6, b(5));
        dueDone("not there", 17, x, 12, 1, b(5));
        dueDone("none such", 14, x, 19, 1, b(32, 1), TEST);
        dueDone("", 0, x, 19, 1, b(8, 0), TEST);
        dueDone("it has none", 19, x, 19, 4, b(7));
        dueDone("no such group", 20, x, 11, 4, b(4), Kit.four(9999), TEST);
        dueDone("", 0, x, 11, 4, b(2), Kit.four(9999), TEST);
        due("its group", x.entry(0, 1), 2);
        dueDone("no entry", 23, x, 11, 5, Kit.two(0x124));
        dueDone("too early", 21, x, 11, 15, Kit.four(-9990));
        dueDone("", 0, x, 11, 5, Kit.two(0x123));
        due("entries", x.entry(NONE, 0), 0);
        dueDone("no such group", 20, x, 11, 20, b(4));
        dueDone("", 0, x, 11, 20, b(3));
        due("the group", x.entry(NONE, 5), 1);
        dueDone("no such store", 24, x, 15, 1, b(2));
        dueDone("", 0, x, 15, 3, b(1, 17, 2));
        due("chosen", x.store(1, 5), 1);
        due("event 9", x.event(9, 0), 0);
    }
}
