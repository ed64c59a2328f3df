import java.util.function.Consumer;

/** Boundary cases that hold for all calls: a new object, what is refused changes nothing, THE TAPE behind a refused call. */
public final class RefusedBoundsTest extends Trip {
    private static final int[] WRONG = {Integer.MIN_VALUE, -100, -3, -1, 64000, 70000, Integer.MAX_VALUE};
    private static final int PARTS = 4;

    private RefusedBoundsTest() {
    }

    public static void main(String[] args) throws Exception {
        Kit.runAll(RefusedBoundsTest.class);
    }

    /** An object in whose every part there is something. */
    private static CraftHouse busy() {
        CraftHouse x = new CraftHouse();
        x.ear(0, 1);
        x.ear(1, 2);
        x.direct(7, 2);
        x.direct(0, 0);
        for (int i = 0; i < 4; i++) {
            x.request(17, 1, 15, false);
        }
        x.carry(0, 300);
        send(x, 15, 3, 1, b(1), Kit.two(2), b(2, 3, 23));
        send(x, 15, 12, 5, watch(2, 3, 0, 5, 1, 7));
        send(x, 15, 19, 1, b(7, 1), TEST);
        x.tick(2);
        send(x, 15, 11, 4, b(2), Kit.four(900), TEST);
        send(x, 15, 3, 5, b(1));
        send(x, 15, 12, 1, b(2));
        send(x, 15, 15, 3, b(1, 3, 25));
        x.tick(2);
        send(x, 15, 15, 1, b(1));
        send(x, 15, 6, 2, Kit.two(5), b(2, 8, 9));
        x.tick(5);
        x.carry(1, 2000);
        x.feed(0x010203, 3);
        return x;
    }

    private static void add(StringBuilder to, int answer) {
        to.append(answer).append(' ');
    }

    /** What can be seen of an object, in parts: an object has but 512 calls. */
    private static String seen(CraftHouse x, int part) {
        StringBuilder all = new StringBuilder();
        for (int i = 0; i < 64; i++) {
            if (part == 0) {
                add(all, x.machine(i % 16));
                add(all, x.came(i % 16));
                add(all, x.craft(i % 20));
                add(all, x.parameter(i % 25));
                add(all, x.taped(i % 5));
            } else if (part == 1) {
                add(all, x.structure(i % 6, i / 6));
                add(all, x.watch(i % 6, i / 6));
                add(all, x.store(i % 2, i / 8));
                add(all, x.shown(i % 24, i / 24));
                add(all, x.memory(i % 16));
            } else if (part == 2) {
                add(all, x.event(i % 32, i / 32));
                add(all, x.event(i % 32, 2 + i / 32));
                add(all, x.entry(i % 4 - 2, i / 4));
                add(all, x.became(i % 16, i / 16));
                add(all, x.archived(i % 10, i / 10));
            } else {
                add(all, x.bit(0, i * 7));
                add(all, x.bit(1, i * 11));
                add(all, x.archivedByte(i % 4, i / 4));
            }
        }
        add(all, x.bits(0));
        add(all, x.bits(1));
        add(all, x.requests());
        add(all, x.check());
        add(all, x.tick(1));
        add(all, x.ear(0, 0));
        add(all, x.ear(1, 0));
        return all.toString();
    }

    private static void dueUnchanged(String calls, Consumer<CraftHouse> refused) {
        for (int part = 0; part < PARTS; part++) {
            CraftHouse x = busy();
            refused.accept(x);
            due(calls + ": part " + part + " is as it was", seen(x, part).equals(seen(busy(), part)) ? 1 : 0, 1);
        }
    }

    private static void dueBad(String call, int got) {
        due(call, got, BAD);
    }

    // ---- a new object

    private static void allAsAtFirst() {
        Kit.about("promise 1, all as at first; objects have nothing in common");
        busy();
        for (int part = 0; part < PARTS; part++) {
            CraftHouse first = new CraftHouse();
            busy().tick(9);
            due("part " + part, seen(first, part).equals(seen(new CraftHouse(), part)) ? 1 : 0, 1);
        }
    }

    private static void numbersAtFirst() {
        Kit.about("3, 4, 2: COUNT 1, LIMIT 3, K 8, TIMER (off), its TIME 20, KIND 0, HOLD 0, ALARM 0; E, F 0; W 16");
        CraftHouse x = new CraftHouse();
        dueMachine("at first", x, 6, 0, 0, 1, 0, 0, 0, 0, 0, 0, 3, 8, 20, 0, BAD);
        dueCraft("at first", x, 0, 0, 0, 0, 0, 16, 0, 0, 0, 0, 0, 0, 0, 0, 0, 0, BAD);
        int[] came = {0, 0, 0, 0, 0, 0, 0, 0, 0, NONE, NONE, BAD};
        for (int i = 0; i < came.length; i++) {
            due("came(" + i + ")", x.came(i), came[i]);
        }
        due("E", x.ear(0, 3), 0);
        due("F", x.ear(1, 3), 0);
        due("THE TAPE", x.wipe(), 0);
        due("TICK", x.tick(0), 0);
    }

    private static void rowsAtFirst() {
        Kit.about("6: PARAMETERS, MEMORY 0; no STRUCTURES, WATCHES, ACTIONS, entries; reports and groups on, SCHEDULE, STORES off");
        CraftHouse x = new CraftHouse();
        for (int p = 0; p < 24; p++) {
            due("parameter(" + p + ")", x.parameter(p), 0);
            due("shown(" + p + ", 0)", x.shown(p, 0), 0);
        }
        for (int i = 0; i < 6; i++) {
            due("structure(" + i + ", 0)", x.structure(i, 0), 0);
            due("watch(" + i + ", 0)", x.watch(i, 0), 0);
            due("entry(NONE, " + i + ")", x.entry(NONE, i), i < 2 ? 0 : 1);
        }
        for (int e = 0; e < 32; e++) {
            due("event(" + e + ", 0)", x.event(e, 0), 1);
            due("event(" + e + ", 1)", x.event(e, 1), 0);
        }
        for (int address = 0; address < 1024; address += 3) {
            due("memory(" + address + ")", (address < 600 ? x : new CraftHouse()).memory(address), 0);
        }
        dueStore(x, 0, 0, 0, 0, 0, 0, 0, NONE, NONE, BAD);
        dueStore(x, 1, 0, 0, 0, 0, 0, 0, NONE, NONE, BAD);
    }

    // ---- what is refused changes nothing

    private static void badOfTheTapeAndTheLines() {
        Kit.about("what is refused changes nothing (feed, taped, code, bits to inject)");
        dueUnchanged("the tape", x -> {
            for (int v : WRONG) {
                dueBad("feed", x.feed(7, v));
                dueBad("taped", x.taped(v));
                dueBad("code", x.code(v));
            }
            dueBad("feed", x.feed(7, 0));
            dueBad("feed", x.feed(7, 5));
            dueBad("taped", x.taped(3));
            dueBad("code", x.code(2));
            dueBad("code of 3 bytes", x.code(1));
        });
        dueUnchanged("the lines", x -> {
            for (int v : WRONG) {
                dueBad("bits", x.bits(v));
                dueBad("bit", x.bit(v, 0));
                dueBad("carry", x.carry(v, 0));
                dueBad("turn", x.turn(v, 0));
                dueBad("slip", x.slip(v, 0));
                dueBad("lose", x.lose(v, 0));
                dueBad("inject", x.inject(v));
                dueBad("bit", x.bit(0, v));
                dueBad("turn", x.turn(1, v));
                dueBad("slip", x.slip(0, v));
            }
            dueBad("carry", x.carry(0, -1));
            dueBad("lose", x.lose(1, -1));
        });
    }

    private static void badOfTheGround() {
        Kit.about("what is refused changes nothing (build to shown)");
        dueUnchanged("requests", x -> {
            for (int v : WRONG) {
                dueBad("build", x.build(v, 1, 1));
                dueBad("build", x.build(1, v, 1));
                dueBad("build", x.build(1, 1, v));
                dueBad("request", x.request(v, 1, 1, false));
                dueBad("request", x.request(1, v, 1, true));
                dueBad("request", x.request(1, 1, v, true));
                dueBad("became", x.became(v, 0));
                dueBad("became", x.became(0, v));
            }
        });
        dueUnchanged("the machine, the ear", x -> {
            for (int v : WRONG) {
                dueBad("direct", x.direct(v, 0));
                for (int what : new int[] {3, 6, 7, 8, 9, 10, 11}) {
                    dueBad("direct(" + what + ")", x.direct(what, v));
                }
                dueBad("machine", x.machine(v));
                dueBad("ear", x.ear(v, 0));
                dueBad("ear", x.ear(0, v));
                dueBad("ear", x.ear(1, v));
            }
        });
        dueUnchanged("what came", x -> {
            for (int v : WRONG) {
                dueBad("came", x.came(v));
                dueBad("archived", x.archived(v, 0));
                dueBad("archived", x.archived(0, v));
                dueBad("archivedByte", x.archivedByte(v, 0));
                dueBad("archivedByte", x.archivedByte(0, v));
                due("shown", x.shown(v, 0), 0);
                due("shown", x.shown(0, v), 0);
            }
        });
    }

    private static void badOfTheCraft() {
        Kit.about("what is refused changes nothing (tick to store)");
        dueUnchanged("the craft", x -> {
            for (int v : WRONG) {
                dueBad("tick", x.tick(v));
                due("sense", x.sense(v, 5), 0);
                due("parameter", x.parameter(v), 0);
                dueBad("memory", x.memory(v));
                dueBad("craft", x.craft(v));
                dueBad("structure", x.structure(v, 0));
                dueBad("structure", x.structure(1, v));
                dueBad("watch", x.watch(v, 0));
                dueBad("watch", x.watch(2, v));
            }
            dueBad("tick(201)", x.tick(201));
            due("sense(16)", x.sense(16, 5), 0);
        });
        dueUnchanged("events, entries, stores", x -> {
            for (int v : WRONG) {
                dueBad("event", x.event(v, 0));
                dueBad("event", x.event(7, v));
                dueBad("entry", x.entry(v, 0));
                dueBad("entry", x.entry(0, v));
                dueBad("entry", x.entry(NONE, v));
                dueBad("store", x.store(v, 0));
                dueBad("store", x.store(1, v));
            }
        });
    }

    private static void noneOfDirect() {
        Kit.about("what is refused changes nothing (direct, NONE)");
        dueUnchanged("direct", x -> {
            for (int what : new int[] {0, 1, 2, 3, 5, 6}) {
                due("direct(" + what + ") in 1", x.direct(what, 200), NONE);
            }
        });
    }

    // ---- the tape

    private static CraftHouse fed(int bytes) {
        CraftHouse x = new CraftHouse();
        Kit.feed(x, Kit.filled(NOTHING, bytes, 0x5A));
        return x;
    }

    private static void dueEmpty(String when, CraftHouse x, int answer, int want) {
        due(when, answer, want);
        due(when + ": THE TAPE is empty then", x.wipe(), 0);
    }

    private static void tapeBehindNoneAndFull() {
        Kit.about("of a call that takes THE TAPE it is empty then");
        CraftHouse unit = fed(113);
        dueEmpty("code(0), FULL", unit, unit.code(0), FULL);
        CraftHouse block = new CraftHouse();
        Kit.feed(block, Kit.hex("C5C5C5C5C5C5C579"));
        dueEmpty("code(1), NONE", block, block.code(1), NONE);
        CraftHouse build = fed(88);
        dueEmpty("build, FULL", build, build.build(1, 1, 1), FULL);
        CraftHouse none = fed(5);
        dueEmpty("request, NONE", none, none.request(1, 1, 1, false), NONE);
        CraftHouse full = fed(48);
        dueEmpty("request, FULL", full, full.request(1, 1, 1, true), FULL);
        CraftHouse line = new CraftHouse();
        line.tick(118);
        Kit.feed(line, new byte[45]);
        dueEmpty("inject, FULL", line, line.inject(1), FULL);
        due("bits", line.bits(1), 117 * 544);
    }

    private static void tapeBehindWhatIsDone() {
        Kit.about("of a call that takes THE TAPE it is empty then, where it is done");
        CraftHouse line = fed(5);
        dueEmpty("inject", line, line.inject(1), 40);
        CraftHouse request = fed(5);
        dueEmpty("request", request, request.request(1, 1, 1, true), 0);
        CraftHouse build = fed(5);
        due("build", build.build(1, 1, 1), 0);
        due("THE TAPE stays as the packet", build.wipe(), 18);
    }

    private static void tapeBehindBad() {
        Kit.about("of a call that takes THE TAPE it is empty then, but with BAD");
        for (int bytes : new int[] {1, 7, 9, 113, 256}) {
            CraftHouse x = fed(bytes);
            dueBad("code(2)", x.code(2));
            dueBad("code(1)", x.code(1));
            dueBad("inject(2)", x.inject(2));
            dueBad("build", x.build(1, 1, 16));
            dueBad("request", x.request(1, 1, 16, false));
            dueBad("request", x.request(256, 1, 1, true));
            due("THE TAPE", x.wipe(), bytes);
        }
    }
}
