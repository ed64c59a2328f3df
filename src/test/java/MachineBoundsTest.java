import java.util.Arrays;

/** Boundary cases, a test for each sentence that names one: part 3 THE GROUND'S MACHINE, promises 14, 15, 18, 19. */
public final class MachineBoundsTest extends Trip {
    private static final int[] EXTREMES = {Integer.MIN_VALUE, -1, 0, 1, 255, 256, Integer.MAX_VALUE};

    private MachineBoundsTest() {
    }

    public static void main(String[] args) throws Exception {
        Kit.runAll(MachineBoundsTest.class);
    }

    /** A machine in one of the STATES 1 to 6; in 1 to 3 with two FRAMES SENT, 0 and 1. */
    private static CraftHouse inState(int state) {
        CraftHouse x = state <= 3 ? begun(2) : new CraftHouse();
        if (state == 2) {
            bring(x, AGAIN, 0);
        } else if (state == 3) {
            bring(x, AGAIN | WAIT, 0);
        } else if (state == 4) {
            x.direct(1, 0);
        } else if (state == 5) {
            x.direct(2, 0);
        }
        due("STATE", x.machine(0), state);
        return x;
    }

    /** Held: TIME 1, LIMIT 1, KIND 1; with two FRAMES SENT and one request that waits. */
    private static CraftHouse held() {
        CraftHouse x = new CraftHouse();
        x.direct(7, 2);
        x.direct(8, 1);
        x.direct(9, 1);
        x.direct(10, 1);
        x.direct(0, 0);
        for (int i = 0; i < 3; i++) {
            x.request(17, 1, 0, false);
        }
        x.tick(1);
        dueMachine("held", x, 6, 2, 0, 1, 0, 1, 0, 2, 1, 0);
        return x;
    }

    private static void dueLost(String when, CraftHouse x, int from, int to) {
        for (int i = from; i <= to; i++) {
            due(when + ": became(" + i + ", 0)", x.became(i, 0), 4);
        }
    }

    // ---- building and requesting

    private static void kindsOfRequests() {
        Kit.about("promises 14, 15, BAD: a service, subtype (0 .. 255), ACKS (0 .. 15)");
        int[][] wrong = {{-1, 1, 1}, {256, 1, 1}, {1, -1, 1}, {1, 256, 1}, {1, 1, -1}, {1, 1, 16},
            {Integer.MIN_VALUE, 1, 1}, {1, Integer.MAX_VALUE, 1}, {1, 1, Integer.MIN_VALUE}};
        for (int[] each : wrong) {
            CraftHouse x = begun(0);
            x.feed(0x0102, 2);
            due("build", x.build(each[0], each[1], each[2]), BAD);
            due("request", x.request(each[0], each[1], each[2], false), BAD);
            due("BYPASS", x.request(each[0], each[1], each[2], true), BAD);
            due("requests", x.requests(), 0);
            due("up", x.bits(0), 0);
            due("THE TAPE stays", x.wipe(), 2);
        }
        int[][] right = {{0, 0, 0}, {255, 255, 15}, {0, 255, 0}, {255, 0, 15}};
        for (int[] each : right) {
            CraftHouse x = begun(0);
            due("build", x.build(each[0], each[1], each[2]), 0);
            Kit.dueTape("build", x, Kit.packetUp(0, each[2], each[0], each[1], NOTHING));
            x.wipe();
            due("request", x.request(each[0], each[1], each[2], false), 1);
            due("BYPASS", x.request(each[0], each[1], each[2], true), 2);
            for (int i = 0; i < 3; i++) {
                due("service", x.became(i, 2), each[0]);
                due("subtype", x.became(i, 3), each[1]);
            }
        }
    }

    private static void badAheadOfOthers() {
        Kit.about("BAD is looked at first (build, request)");
        CraftHouse x = new CraftHouse();
        Kit.feed(x, new byte[200]);
        due("build", x.build(256, 0, 0), BAD);
        due("request in 6", x.request(256, 0, 0, false), BAD);
        due("BYPASS", x.request(0, 0, 16, true), BAD);
        due("THE TAPE stays", x.wipe(), 200);
    }

    private static void packetsThatAreBuilt() {
        Kit.about("promise 14, FULL: more than 100 bytes would be; THE TAPE stays as the packet");
        for (int n : new int[] {0, 1, 86, 87, 88, 255, 256}) {
            CraftHouse x = new CraftHouse();
            Kit.feed(x, new byte[n]);
            boolean fits = n + 13 <= 100;
            due("build of " + n, x.build(17, 1, 0), fits ? 0 : FULL);
            due("requests", x.requests(), fits ? 1 : 0);
            due("became", x.became(0, 0), fits ? 0 : BAD);
            if (fits) {
                Kit.dueTape("build of " + n, x, Kit.packetUp(0, 0, 17, 1, new byte[n]));
            } else {
                due("THE TAPE is empty then", x.wipe(), 0);
            }
        }
    }

    private static void requestsOfSixtyBytes() {
        Kit.about("promise 15, FULL: more than 60 bytes");
        for (boolean bypass : new boolean[] {false, true}) {
            for (int n : new int[] {0, 46, 47, 48, 256}) {
                CraftHouse x = begun(0);
                Kit.feed(x, new byte[n]);
                boolean fits = n + 13 <= 60;
                due("request of " + n, x.request(17, 1, 0, bypass), fits ? 0 : FULL);
                due("requests", x.requests(), fits ? 1 : 0);
                due("THE TAPE is empty then", x.wipe(), 0);
                byte[] unit = Kit.unit(Kit.frame(bypass, false, 0, Kit.packetUp(0, 0, 17, 1, new byte[n])));
                due("up", x.bits(0), fits ? 8 * unit.length : 0);
                if (n == 0) {
                    Kit.dueBytes("up", Kit.onLine(x, 0, 0, unit.length), unit);
                }
                x.carry(0, 32000);
                due("TAKEN", x.parameter(16), fits ? 1 : 0);
            }
        }
    }

    private static void requestsThatWait() {
        Kit.about("promise 15, FULL: without BYPASS, 32 that wait");
        CraftHouse x = begun(0);
        x.direct(7, 1);
        for (int i = 0; i < 33; i++) {
            due("request", x.request(17, 1, 0, false), i);
        }
        due("waiting", x.machine(8), 32);
        x.feed(5, 1);
        due("the 33rd that would wait", x.request(17, 1, 0, false), FULL);
        due("THE TAPE is empty then", x.wipe(), 0);
        due("waiting", x.machine(8), 32);
        due("requests", x.requests(), 33);
        due("BYPASS", x.request(17, 1, 0, true), 33);
        bring(x, 0, 1);
        due("one was sent", x.machine(8), 31);
        due("there is room again", x.request(17, 1, 0, false), 34);
        due("waiting", x.machine(8), 32);
    }

    private static void requestsOfManyBytesThatWait() {
        Kit.about("promise 15, of at most 60 bytes: 32 of 60 that wait, 32 of 60 that are SENT");
        for (int k : new int[] {1, 32}) {
            CraftHouse x = begun(0);
            x.direct(7, k);
            for (int i = 0; i < 33; i++) {
                for (int n = 0; n < 11; n++) {
                    x.feed(0, 4);
                }
                x.feed(0, 3);
                due("request", x.request(17, 1, 0, false), i);
            }
            due("SENT", x.machine(7), k);
            due("waiting", x.machine(8), 33 - k);
        }
    }

    private static void contentOfSixtyBytesInAFrame() {
        Kit.about("promise 15, of at most 60 bytes: a FRAME with all of them");
        CraftHouse x = begun(0);
        byte[] data = new byte[47];
        for (int i = 0; i < 47; i++) {
            data[i] = (byte) (200 + i);
        }
        Kit.feed(x, data);
        due("request", x.request(17, 1, 0, false), 0);
        byte[] unit = Kit.unit(Kit.frame(false, false, 0, Kit.packetUp(0, 0, 17, 1, data)));
        due("bits", x.bits(0), 8 * unit.length);
        // an object has 512 calls: the last 50 bytes are enough
        int from = unit.length - 50;
        Kit.dueBytes("its end", Kit.onLine(x, 0, 8 * from, 50), Arrays.copyOfRange(unit, from, unit.length));
    }

    private static void requestsInEachState() {
        Kit.about("promise 15, ahead: STATES 1 to 3; NONE: STATES 4 to 6 (without BYPASS)");
        for (int state = 1; state <= 6; state++) {
            CraftHouse x = inState(state);
            int next = x.requests();
            x.feed(9, 1);
            due("request in " + state, x.request(17, 1, 0, false), state <= 3 ? next : NONE);
            due("THE TAPE is empty then", x.wipe(), 0);
            due("requests", x.requests(), state <= 3 ? next + 1 : next);
            due("became", x.became(next, 0), state <= 2 ? 2 : state == 3 ? 1 : BAD);
            due("BYPASS in " + state, x.request(17, 1, 0, true), x.requests() - 1);
            due("became", x.became(x.requests() - 1, 0), 2);
        }
        CraftHouse x = held();
        due("request, HELD", x.request(17, 1, 0, false), NONE);
        due("BYPASS, HELD", x.request(17, 1, 0, true), 3);
    }

    private static void bypassHasNumberNought() {
        Kit.about("promise 15, with BYPASS is sent at once in a FRAME with N 0, whatever S is");
        CraftHouse x = new CraftHouse();
        x.direct(6, 200);
        x.direct(0, 0);
        due("request", x.request(17, 1, 0, true), 0);
        byte[] unit = Kit.unit(Kit.frame(true, false, 0, Kit.packetUp(0, 0, 17, 1, NOTHING)));
        Kit.dueBytes("up", Kit.onLine(x, 0, 0, unit.length), unit);
        dueMachine("the machine is as it was", x, 1, 200, 200, 1, 0, 0, 0, 0, 0, 0);
    }

    // ---- directives

    private static void directivesThatAre() {
        Kit.about("promise 18, BAD: another one");
        CraftHouse x = new CraftHouse();
        for (int what : new int[] {Integer.MIN_VALUE, -2, -1, 12, 13, Integer.MAX_VALUE}) {
            for (int v : EXTREMES) {
                due("direct(" + what + ", " + v + ")", x.direct(what, v), BAD);
            }
        }
        dueMachine("it changes nothing", x, 6, 0, 0, 1, 0, 0, 0, 0, 0, 0, 3, 8, 20, 0);
    }

    private static void valuesOfDirectives() {
        Kit.about("promise 18, BAD: a v that may not be");
        int[][] ranges = {{3, 0, 255}, {6, 0, 255}, {7, 1, 32}, {8, 1, 1000}, {9, 1, 15}, {10, 0, 1}};
        int[] tells = {0, 0, 0, 1, 0, 0, 1, 11, 12, 10, 13};
        for (int[] range : ranges) {
            int what = range[0];
            for (int v : new int[] {Integer.MIN_VALUE, range[1] - 1, range[2] + 1, Integer.MAX_VALUE}) {
                CraftHouse x = new CraftHouse();
                due("direct(" + what + ", " + v + ")", x.direct(what, v), BAD);
                dueMachine("it changes nothing", x, 6, 0, 0, 1, 0, 0, 0, 0, 0, 0, 3, 8, 20, 0);
                due("up", x.bits(0), 0);
            }
            for (int v : new int[] {range[1], range[1] + 1, range[2] - 1, range[2]}) {
                CraftHouse x = new CraftHouse();
                due("direct(" + what + ", " + v + ")", x.direct(what, v), 1);
                due("machine(" + tells[what] + ")", x.machine(tells[what]), v);
                due("A", x.machine(2), what == 3 || what == 6 ? v : 0);
            }
        }
    }

    private static void valuesThatDoNotCount() {
        Kit.about("promise 18, with 0, 1, 2, 4, 5 v does not count");
        for (int v : EXTREMES) {
            for (int what : new int[] {0, 1, 2, 4}) {
                CraftHouse x = new CraftHouse();
                due("direct(" + what + ", " + v + ")", x.direct(what, v), 1);
                due("S", x.machine(1), 0);
                due("A", x.machine(2), 0);
            }
            CraftHouse x = held();
            due("direct(5, " + v + ")", x.direct(5, v), 1);
            due("STATE", x.machine(0), 1);
        }
    }

    private static void beginningsInOtherStates() {
        Kit.about("promise 18, 0 to 3 (in 6 alone); NONE: another STATE");
        for (int state = 1; state <= 5; state++) {
            CraftHouse x = inState(state);
            int bits = x.bits(0);
            int sent = x.machine(7);
            for (int what = 0; what <= 3; what++) {
                due("direct(" + what + ") in " + state, x.direct(what, 77), NONE);
            }
            due("direct(5) in " + state, x.direct(5, 0), NONE);
            due("direct(6) in " + state, x.direct(6, 77), NONE);
            due("STATE", x.machine(0), state);
            due("SENT", x.machine(7), sent);
            due("A", x.machine(2), 0);
            due("S", x.machine(1), sent);
            due("up", x.bits(0), bits);
        }
    }

    private static void badAheadOfNone() {
        Kit.about("BAD is looked at first (direct)");
        for (int state = 1; state <= 5; state++) {
            CraftHouse x = inState(state);
            due("direct(3, 256) in " + state, x.direct(3, 256), BAD);
            due("direct(3, -1) in " + state, x.direct(3, -1), BAD);
            due("direct(6, 256) in " + state, x.direct(6, 256), BAD);
            due("direct(12, 0) in " + state, x.direct(12, 0), BAD);
        }
    }

    private static void holdAndDirectives() {
        Kit.about("promise 18, 5 go on (in 6, HOLD not 0), 6 (in 6, HOLD 0); NONE: HOLD");
        CraftHouse x = new CraftHouse();
        due("direct(5) without HOLD", x.direct(5, 0), NONE);
        dueMachine("it changes nothing", x, 6, 0, 0, 1, 0, 0, 0);
        due("direct(6) without HOLD", x.direct(6, 9), 1);
        CraftHouse y = held();
        due("direct(6) with HOLD", y.direct(6, 9), NONE);
        dueMachine("it changes nothing", y, 6, 2, 0, 1, 0, 1, 0, 2, 1, 0);
        due("direct(5) with HOLD", y.direct(5, 0), 1);
        dueMachine("it goes on", y, 1, 2, 0, 1, 1, 0, 0, 2, 1, 0);
        due("direct(5) once more", y.direct(5, 0), NONE);
    }

    private static void numbersInEachState() {
        Kit.about("promise 18, 7 K, 8 the TIME, 9 LIMIT, 10 KIND is v (any STATE)");
        for (int state = 1; state <= 6; state++) {
            CraftHouse x = inState(state);
            int timer = x.machine(4);
            due("direct(7)", x.direct(7, 32), 1);
            due("direct(8)", x.direct(8, 1000), 1);
            due("direct(9)", x.direct(9, 15), 1);
            due("direct(10)", x.direct(10, 1), 1);
            due("direct(11)", x.direct(11, 2), 1);
            due("LIMIT", x.machine(10), 15);
            due("K", x.machine(11), 32);
            due("TIME", x.machine(12), 1000);
            due("KIND", x.machine(13), 1);
            due("W", x.craft(5), 2);
            due("STATE", x.machine(0), state);
            due("the TIMER goes on as it did", x.machine(4), timer);
        }
    }

    private static void endInEachState() {
        Kit.about("promise 18, 4 end: ALARM 7 (any STATE)");
        for (int state = 1; state <= 6; state++) {
            CraftHouse x = inState(state);
            int s = x.machine(1);
            due("direct(4)", x.direct(4, 0), 1);
            due("STATE", x.machine(0), 6);
            due("A is S", x.machine(2), s);
            due("S stays", x.machine(1), s);
            due("the TIMER", x.machine(4), 0);
            due("ALARM", x.machine(6), 7);
            due("SENT", x.machine(7), 0);
            if (state <= 3) {
                dueLost("LOST", x, 0, 1);
            }
        }
        CraftHouse x = held();
        x.direct(4, 0);
        dueMachine("HELD", x, 6, 2, 2, 1, 0, 0, 7, 0, 0, 0);
        dueLost("HELD", x, 0, 2);
    }

    private static void beginningsFromHold() {
        Kit.about("promise 18, 0 to 3: HOLD is 0, COUNT 1; SENT and what waits go, LOST as by ALARM, A is S");
        int[][] want = {{1, 2, 2, 1, 0, 0, 0, 0, 0, 0}, {4, 2, 2, 1, 1, 0, 0, 0, 0, 0}, {5, 2, 2, 1, 1, 0, 0, 0, 0, 0},
            {5, 200, 200, 1, 1, 0, 0, 0, 0, 0}};
        for (int what = 0; what <= 3; what++) {
            CraftHouse x = held();
            due("direct(" + what + ")", x.direct(what, 200), 1);
            dueMachine("direct(" + what + ")", x, want[what]);
            dueLost("direct(" + what + ")", x, 0, 2);
        }
    }

    private static void countBeginsWithOne() {
        Kit.about("promise 18, 0 to 3: COUNT 1, whatever it was");
        for (int what = 0; what <= 3; what++) {
            CraftHouse x = new CraftHouse();
            x.direct(2, 0);
            x.tick(40);
            due("COUNT", x.machine(3), 3);
            x.direct(4, 0);
            due("COUNT stays", x.machine(3), 3);
            x.direct(what, 0);
            due("COUNT", x.machine(3), 1);
        }
    }

    private static void controlFrames() {
        Kit.about("promise 18, 2 with UNLOCK, 3 with SET to v (0 .. 255): that control FRAME (N 0) is sent");
        CraftHouse x = new CraftHouse();
        x.direct(2, 0);
        dueUnit("UNLOCK", x, Kit.frame(true, true, 0, b(0)));
        for (int v : new int[] {0, 1, 128, 255}) {
            CraftHouse y = new CraftHouse();
            // one that was sent before leaves nothing behind
            y.direct(v == 1 ? 2 : 3, 77);
            y.direct(4, 0);
            y.lose(0, 32000);
            y.direct(3, v);
            dueUnit("SET to " + v, y, Kit.frame(true, true, 0, b(0x82, 0, v)));
        }
        CraftHouse z = new CraftHouse();
        z.direct(3, 9);
        z.direct(4, 0);
        z.lose(0, 32000);
        z.direct(2, 0);
        dueUnit("UNLOCK behind SET", z, Kit.frame(true, true, 0, b(0)));
        z.lose(0, 32000);
        z.tick(20);
        dueUnit("once more", z, Kit.frame(true, true, 0, b(0)));
    }

    private static void dueUnit(String when, CraftHouse x, byte[] frame) {
        byte[] unit = Kit.unit(frame);
        due(when + ": bits", x.bits(0), 8 * unit.length);
        // the tail is the same in all units
        Kit.dueBytes(when, Kit.onLine(x, 0, 0, unit.length - 8), Arrays.copyOf(unit, unit.length - 8));
    }

    private static void machineHasBounds() {
        Kit.about("promise 19, BAD");
        CraftHouse x = new CraftHouse();
        for (int what : new int[] {Integer.MIN_VALUE, -3, -2, -1, 14, 15, Integer.MAX_VALUE}) {
            due("machine(" + what + ")", x.machine(what), BAD);
        }
        dueMachine("all", x, 6, 0, 0, 1, 0, 0, 0, 0, 0, 0, 3, 8, 20, 0);
    }

    // ---- GO

    private static void sentUpToK() {
        Kit.about("3, GO: the first waiting request, if SENT has fewer than K");
        for (int k : new int[] {1, 2, 31, 32}) {
            CraftHouse x = begun(0);
            x.direct(7, k);
            for (int i = 0; i < k + 2; i++) {
                x.request(17, 1, 0, false);
            }
            due("K " + k + ": SENT", x.machine(7), k);
            due("K " + k + ": waiting", x.machine(8), 2);
            due("K " + k + ": S", x.machine(1), k);
            due("K " + k + ": the last that is SENT", x.became(k - 1, 0), 2);
            due("K " + k + ": the first that waits", x.became(k, 0), 1);
            bring(x, 0, 1);
            due("one acknowledged: SENT", x.machine(7), k);
            due("one acknowledged: waiting", x.machine(8), 1);
        }
    }

    private static void sentMoreThanKNow() {
        Kit.about("3, GO: if SENT has fewer than K, K became less");
        CraftHouse x = begun(4);
        x.direct(7, 2);
        x.request(17, 1, 0, false);
        due("SENT", x.machine(7), 4);
        due("waiting", x.machine(8), 1);
        bring(x, 0, 2);
        due("two of 4 left", x.machine(7), 2);
        due("waiting", x.machine(8), 1);
        bring(x, 0, 3);
        due("one of 4 left", x.machine(7), 2);
        due("waiting", x.machine(8), 0);
    }

    private static void allAreSentInOneGo() {
        Kit.about("3, GO: as long as one of both fits: 32 marked ones; 32 waiting ones");
        CraftHouse x = begun(0);
        x.direct(7, 32);
        x.direct(8, 5);
        for (int i = 0; i < 40; i++) {
            x.request(17, 1, 0, false);
        }
        dueMachine("40", x, 1, 32, 0, 1, 5, 0, 0, 32, 8, 0);
        x.lose(0, 32000);
        x.tick(5);
        dueMachine("once more", x, 1, 32, 0, 2, 5, 0, 0, 32, 8, 0);
        due("32 units", x.bits(0), 32 * 272);
        CraftHouse y = begun(0);
        y.direct(7, 1);
        for (int i = 0; i < 33; i++) {
            y.request(17, 1, 0, false);
        }
        dueMachine("32 wait", y, 1, 1, 0, 1, 20, 0, 0, 1, 32, 0);
        y.direct(7, 32);
        y.lose(0, 32000);
        bring(y, 0, 1);
        dueMachine("all are sent", y, 1, 33, 1, 1, 20, 0, 0, 32, 0, 0);
        due("32 units", y.bits(0), 32 * 272);
    }

    private static void markedOnesThenWaitingOnes() {
        Kit.about("3, GO: the first marked FRAME is sent once more; else the first waiting request");
        CraftHouse x = begun(3);
        bring(x, AGAIN | WAIT, 0);
        x.request(17, 1, 0, false);
        x.lose(0, 32000);
        bring(x, AGAIN, 1);
        dueMachine("two again, one more", x, 2, 4, 1, 2, 20, 0, 0, 3, 0, 0);
        due("three units", x.bits(0), 3 * 272);
        byte[] last = Kit.unit(Kit.frame(false, false, 3, Kit.packetUp(3, 0, 17, 1, NOTHING)));
        Kit.dueBytes("the third", Kit.onLine(x, 0, 2 * 272, 34), last);
    }

    private static void framesSentOnceMore() {
        Kit.about("3, GO: the first marked FRAME of SENT is sent once more: as it was");
        CraftHouse x = begun(0);
        for (int i = 0; i < 3; i++) {
            x.feed(i, 1);
            x.request(100 + i, i, 0, false);
        }
        x.lose(0, 32000);
        bring(x, AGAIN, 0);
        for (int i = 0; i < 3; i++) {
            byte[] unit = Kit.unit(Kit.frame(false, false, i, Kit.packetUp(i, 0, 100 + i, i, b(i))));
            Kit.dueBytes("FRAME " + i, Kit.onLine(x, 0, 8 * i * unit.length + 16, 16), Arrays.copyOfRange(unit, 2, 18));
        }
    }

    private static void countWhenSentWasEmpty() {
        Kit.about("3, GO: COUNT is 1 if SENT was empty");
        CraftHouse x = begun(2);
        x.tick(20);
        due("COUNT", x.machine(3), 2);
        x.request(17, 1, 0, false);
        due("COUNT stays, SENT was not empty", x.machine(3), 2);
        bring(x, 0, 3);
        due("COUNT", x.machine(3), 1);
        x.request(17, 1, 0, false);
        due("COUNT", x.machine(3), 1);
        CraftHouse y = new CraftHouse();
        y.direct(8, 1);
        y.direct(2, 0);
        y.tick(1);
        bring(y, 0, 0);
        dueMachine("the control FRAME was sent twice", y, 1, 0, 0, 2, 0);
        y.request(17, 1, 0, false);
        dueMachine("SENT was empty", y, 1, 1, 0, 1, 1);
    }

    private static void numbersWrap() {
        Kit.about("1 BYTES, all counts wrap at their width (S, A, N)");
        CraftHouse x = new CraftHouse();
        x.direct(6, 255);
        x.direct(0, 0);
        x.request(17, 1, 0, false);
        dueMachine("255", x, 1, 0, 255, 1, 20, 0, 0, 1, 0, 0);
        x.request(17, 1, 0, false);
        byte[] first = Kit.unit(Kit.frame(false, false, 255, Kit.packetUp(0, 0, 17, 1, NOTHING)));
        byte[] second = Kit.unit(Kit.frame(false, false, 0, Kit.packetUp(1, 0, 17, 1, NOTHING)));
        Kit.dueBytes("N 255", Kit.onLine(x, 0, 0, 34), first);
        x.carry(0, 272);
        Kit.dueBytes("N 0", Kit.onLine(x, 0, 0, 8), Arrays.copyOf(second, 8));
        bring(x, 0, 0);
        dueMachine("255 acknowledged", x, 1, 1, 0, 1, 20, 0, 0, 1, 0, 0);
        bring(x, 0, 1);
        dueMachine("0 acknowledged", x, 1, 1, 1, 1, 0, 0, 0, 0, 0, 0);
    }

    // ---- reports

    private static void reportsOutsideOfAToS() {
        Kit.about("3, a REPORT: x is none of A .. S: ALARM 2");
        for (int a : new int[] {0, 100, 254}) {
            int s = a + 3 & 255;
            for (int x : new int[] {a, a + 1, a + 2, a + 3, a + 4, a + 5, a + 128, a - 1, a - 2}) {
                CraftHouse house = new CraftHouse();
                house.direct(6, a);
                house.direct(0, 0);
                for (int i = 0; i < 3; i++) {
                    house.request(17, 1, 0, false);
                }
                bring(house, 0, x & 255);
                boolean inside = (x - a & 255) <= 3;
                String when = "A " + a + ", x " + (x & 255);
                due(when + ": STATE", house.machine(0), inside ? 1 : 6);
                due(when + ": ALARM", house.machine(6), inside ? 0 : 2);
                due(when + ": A", house.machine(2), inside ? x & 255 : s);
                due(when + ": S", house.machine(1), s);
                due(when + ": SENT", house.machine(7), inside ? s - x & 255 : 0);
            }
        }
    }

    private static void reportsWithNothingSent() {
        Kit.about("3, a REPORT: x is none of A .. S, SENT is empty");
        for (int state : new int[] {1, 4, 5}) {
            for (int v : new int[] {0, 1, 255}) {
                CraftHouse x = state == 1 ? begun(0) : inState(state);
                bring(x, 0, v);
                due("in " + state + ", x " + v + ": STATE", x.machine(0), v == 0 ? 1 : 6);
                due("in " + state + ", x " + v + ": ALARM", x.machine(6), v == 0 ? 0 : 2);
            }
        }
    }

    private static void reportsInOff() {
        Kit.about("3, a REPORT: STATE 6: nothing");
        for (int bits : new int[] {0, LOCKOUT, WAIT, AGAIN, LOCKOUT | WAIT | AGAIN}) {
            for (int v : new int[] {0, 2, 77}) {
                CraftHouse x = held();
                bring(x, bits, v);
                dueMachine("HELD", x, 6, 2, 0, 1, 0, 1, 0, 2, 1, 0);
                CraftHouse y = new CraftHouse();
                bring(y, bits, v);
                dueMachine("off", y, 6, 0, 0, 1, 0, 0, 0, 0, 0, 0);
            }
        }
    }

    private static void reportsWithAnyB() {
        Kit.about("3, a REPORT: B does not count");
        for (int b = 0; b < 4; b++) {
            CraftHouse x = begun(2);
            bring(x, b << 1, 0);
            dueMachine("B " + b + ", x = A", x, 1, 2, 0, 1, 20, 0, 0, 2, 0, 0);
            bring(x, b << 1, 1);
            dueMachine("B " + b + ", one", x, 1, 2, 1, 1, 20, 0, 0, 1, 0, 0);
            bring(x, b << 1, 2);
            dueMachine("B " + b + ", all", x, 1, 2, 2, 1, 0, 0, 0, 0, 0, 0);
        }
    }

    private static void reportsWithLockout() {
        Kit.about("3, a REPORT: LOCKOUT: in 5 nothing, else ALARM 1");
        for (int state = 1; state <= 5; state++) {
            for (int v : new int[] {0, 2, 77}) {
                CraftHouse x = inState(state);
                bring(x, LOCKOUT | AGAIN | WAIT, v);
                due("in " + state + ": STATE", x.machine(0), state == 5 ? 5 : 6);
                due("in " + state + ": ALARM", x.machine(6), state == 5 ? 0 : 1);
                due("in " + state + ": TIMER", x.machine(4), state == 5 ? 20 : 0);
                if (state <= 3) {
                    dueLost("in " + state, x, 0, 1);
                }
            }
        }
    }

    private static void reportsOfAll() {
        Kit.about("3, x = S: AGAIN: in 5 nothing, else ALARM 3; WAIT: in 5 nothing, else ALARM 4; else CLEAR, STATE 1");
        for (int state = 1; state <= 5; state++) {
            for (int bits : new int[] {0, AGAIN, WAIT, AGAIN | WAIT}) {
                CraftHouse x = inState(state);
                bring(x, bits, x.machine(1));
                String when = "in " + state + ", bits " + bits;
                boolean still = state == 5 && bits != 0;
                due(when + ": STATE", x.machine(0), bits == 0 ? 1 : still ? 5 : 6);
                due(when + ": ALARM", x.machine(6), bits == 0 || still ? 0 : (bits & AGAIN) != 0 ? 3 : 4);
                due(when + ": TIMER", x.machine(4), still ? 20 : 0);
                due(when + ": A is S", x.machine(2), x.machine(1));
                due(when + ": COUNT", x.machine(3), bits != 0 && state == 2 ? 2 : 1);
                if (state <= 3) {
                    due(when + ": became", x.became(1, 0), bits == 0 ? 3 : 4);
                }
            }
        }
    }

    private static void reportsOfAllWithNothingSent() {
        Kit.about("3, x = S, x = A: in 1 nothing, in 2, 3 ALARM 3, in 4, 5 STATE 1, the TIMER off, GO");
        CraftHouse one = begun(0);
        bring(one, 0, 0);
        dueMachine("in 1", one, 1, 0, 0, 1, 0, 0, 0);
        for (int state = 4; state <= 5; state++) {
            CraftHouse x = inState(state);
            due("the TIMER", x.machine(4), 20);
            bring(x, 0, 0);
            dueMachine("in " + state, x, 1, 0, 0, 1, 0, 0, 0);
        }
    }

    private static void reportsOfSome() {
        Kit.about("3, without AGAIN: WAIT: ALARM 4; x = A: in 1 nothing, else ALARM 3; else CLEAR to x, STATE 1, GO");
        for (int state = 1; state <= 3; state++) {
            for (int v = 0; v <= 1; v++) {
                CraftHouse waits = inState(state);
                bring(waits, WAIT, v);
                due("WAIT in " + state + ": ALARM", waits.machine(6), 4);
                dueLost("WAIT in " + state, waits, 0, 1);
                CraftHouse x = inState(state);
                int count = x.machine(3);
                bring(x, 0, v);
                boolean alarm = v == 0 && state != 1;
                String when = "x " + v + " in " + state;
                due(when + ": STATE", x.machine(0), alarm ? 6 : 1);
                due(when + ": ALARM", x.machine(6), alarm ? 3 : 0);
                due(when + ": A", x.machine(2), alarm ? 2 : v);
                due(when + ": COUNT", x.machine(3), v == 1 ? 1 : count);
                due(when + ": the TIMER goes on", x.machine(4), alarm ? 0 : 20);
                due(when + ": became(0, 0)", x.became(0, 0), alarm ? 4 : v == 1 ? 3 : 2);
                due(when + ": became(1, 0)", x.became(1, 0), alarm ? 4 : 2);
            }
        }
    }

    private static void reportsWithLimitOne() {
        Kit.about("3, LIMIT is 1: (x is not A: CLEAR to x;) ALARM 5");
        for (int state = 1; state <= 3; state++) {
            for (int v = 0; v <= 1; v++) {
                for (int bits : new int[] {AGAIN, AGAIN | WAIT}) {
                    CraftHouse x = inState(state);
                    x.direct(9, 1);
                    bring(x, bits, v);
                    String when = "x " + v + " in " + state;
                    due(when + ": STATE", x.machine(0), 6);
                    due(when + ": ALARM", x.machine(6), 5);
                    due(when + ": became(0, 0)", x.became(0, 0), v == 1 ? 3 : 4);
                    due(when + ": became(1, 0)", x.became(1, 0), 4);
                    CraftHouse two = inState(state);
                    two.direct(9, 2);
                    bring(two, bits, v);
                    due(when + ", LIMIT 2: no ALARM", two.machine(6), 0);
                }
            }
        }
    }

    private static void reportsOfSomeWithAgain() {
        Kit.about("3, x is not A: CLEAR to x; WAIT: STATE 3; else REPEAT, STATE 2, GO");
        for (int state = 1; state <= 3; state++) {
            CraftHouse waits = inState(state);
            waits.lose(0, 32000);
            bring(waits, AGAIN | WAIT, 1);
            dueMachine("WAIT in " + state, waits, 3, 2, 1, 1, 20, 0, 0, 1, 0, 0);
            due("nothing is sent", waits.bits(0), 0);
            CraftHouse x = inState(state);
            x.lose(0, 32000);
            x.tick(7);
            bring(x, AGAIN, 1);
            dueMachine("in " + state, x, 2, 2, 1, 2, 20, 0, 0, 1, 0, 0);
            due("one is sent", x.bits(0), 272);
        }
    }

    private static void reportsOfNoneWithAgain() {
        Kit.about("3, x = A: WAIT: STATE 3; COUNT is LIMIT or more: STATE 2; in 2 nothing; else REPEAT, STATE 2, GO");
        for (int state = 1; state <= 3; state++) {
            CraftHouse waits = inState(state);
            bring(waits, AGAIN | WAIT, 0);
            dueMachine("WAIT in " + state, waits, 3, 2, 0, state == 2 ? 2 : 1, 20, 0, 0, 2, 0, 0);
            for (int limit = 2; limit <= 4; limit++) {
                CraftHouse x = inState(state);
                // COUNT becomes 2, or 3 where it was 2; in 3 the TIMER's end is nothing
                x.direct(8, 1);
                x.direct(9, 15);
                x.tick(20);
                int count = x.machine(3);
                due("COUNT in " + state, count, state == 3 ? 1 : state + 1);
                x.direct(9, limit);
                x.lose(0, 32000);
                int timer = x.machine(4);
                bring(x, AGAIN, 0);
                boolean repeats = count < limit && state != 2;
                String when = "LIMIT " + limit + " in " + state;
                dueMachine(when, x, 2, 2, 0, repeats ? count + 1 : count, repeats ? 1 : timer, 0, 0, 2, 0, 0);
                due(when + ": units", x.bits(0), repeats ? 2 * 272 : 0);
            }
        }
    }

    private static void nothingIsNoGo() {
        Kit.about("3, x = A: in 1 nothing (without AGAIN), in 2 nothing (with AGAIN): no GO, though K has grown");
        for (int state = 1; state <= 2; state++) {
            CraftHouse x = inState(state);
            x.direct(7, 2);
            x.request(17, 1, 0, false);
            x.direct(7, 3);
            x.lose(0, 32000);
            x.tick(1);
            bring(x, state == 1 ? 0 : AGAIN, 0);
            dueMachine("in " + state, x, state, 2, 0, state, 19, 0, 0, 2, 1, 0);
            due("nothing is sent", x.bits(0), 0);
            bring(x, 0, 1);
            dueMachine("then", x, 1, 3, 1, 1, 20, 0, 0, 2, 0, 0);
        }
    }

    private static void countAboveTheLimit() {
        Kit.about("3, COUNT is LIMIT or more: with a report, with the TIMER");
        for (int limit = 1; limit <= 3; limit++) {
            CraftHouse x = inState(2);
            x.direct(8, 1);
            x.tick(20);
            bring(x, AGAIN | WAIT, 0);
            dueMachine("COUNT 3", x, 3, 2, 0, 3, 1, 0, 0, 2, 0, 0);
            x.direct(9, limit);
            x.lose(0, 32000);
            if (limit > 1) {
                bring(x, AGAIN, 0);
                dueMachine("AGAIN with LIMIT " + limit, x, 2, 2, 0, 3, 1, 0, 0, 2, 0, 0);
            }
            x.tick(1);
            dueMachine("the TIMER with LIMIT " + limit, x, 6, 2, 2, 3, 0, 0, 6, 0, 0, 0);
            due("nothing is sent", x.bits(0), 0);
        }
    }

    private static void againAtTheLimitIsNoGo() {
        Kit.about("3, x = A: COUNT is LIMIT or more: STATE 2 (without GO); else REPEAT, STATE 2, GO");
        for (int limit = 2; limit <= 3; limit++) {
            CraftHouse x = inState(2);
            bring(x, AGAIN | WAIT, 0);
            x.request(17, 1, 0, false);
            dueMachine("it waits in 3", x, 3, 2, 0, 2, 20, 0, 0, 2, 1, 0);
            x.direct(9, limit);
            x.lose(0, 32000);
            bring(x, AGAIN, 0);
            if (limit == 2) {
                dueMachine("it still waits", x, 2, 2, 0, 2, 20, 0, 0, 2, 1, 0);
                due("nothing is sent", x.bits(0), 0);
                x.request(17, 1, 0, false);
                dueMachine("both go with the next GO", x, 2, 4, 0, 2, 20, 0, 0, 4, 0, 0);
            } else {
                dueMachine("it goes", x, 2, 3, 0, 3, 20, 0, 0, 3, 0, 0);
                due("all are sent", x.bits(0), 3 * 272);
            }
        }
    }

    // ---- the timer

    private static void timerOfOneTickAndOfMany() {
        Kit.about("3, TIME 20 (1 .. 1000); the TIMER is one less each tick, at 0 it ends");
        for (int time : new int[] {1, 2, 200, 1000}) {
            CraftHouse x = new CraftHouse();
            x.direct(8, time);
            x.direct(0, 0);
            due("off", x.machine(4), 0);
            x.request(17, 1, 0, false);
            due("it begins", x.machine(4), time);
            for (int left = time - 1; left > 0; left -= Math.min(left, 200)) {
                x.tick(Math.min(left, 200));
            }
            due("TIME " + time + ", a tick ahead: TIMER", x.machine(4), 1);
            due("TIME " + time + ", a tick ahead: COUNT", x.machine(3), 1);
            x.tick(1);
            due("TIME " + time + ": TIMER", x.machine(4), time);
            due("TIME " + time + ": COUNT", x.machine(3), 2);
        }
        CraftHouse off = begun(0);
        off.tick(200);
        dueMachine("off", off, 1, 0, 0, 1, 0, 0, 0);
    }

    private static void timerUpToLimit() {
        Kit.about("3, the TIMER ends: COUNT below LIMIT: REPEAT, GO; else ALARM 6");
        for (int limit : new int[] {1, 2, 3, 14, 15}) {
            CraftHouse x = begun(0);
            x.direct(8, 1);
            x.direct(9, limit);
            x.request(17, 1, 0, false);
            x.tick(limit - 1);
            dueMachine("LIMIT " + limit, x, 1, 1, 0, limit, 1, 0, 0, 1, 0, 0);
            due("units", x.bits(0), limit * 272);
            x.tick(1);
            dueMachine("LIMIT " + limit + " is there", x, 6, 1, 1, limit, 0, 0, 6, 0, 0, 0);
            due("units", x.bits(0), limit * 272);
            dueLost("LIMIT " + limit, x, 0, 0);
        }
    }

    private static void timerInEachState() {
        Kit.about("3, the TIMER ends, COUNT below LIMIT: in 1, 2 REPEAT, GO; in 3 nothing; in 4 by KIND; in 5 once more");
        for (int kind = 0; kind <= 1; kind++) {
            for (int state = 1; state <= 5; state++) {
                CraftHouse x = inState(state);
                x.direct(10, kind);
                int count = x.machine(3);
                x.lose(0, 32000);
                x.tick(19);
                due("a tick ahead: STATE", x.machine(0), state);
                x.tick(1);
                String when = "KIND " + kind + " in " + state;
                boolean repeats = state == 1 || state == 2 || state == 5;
                due(when + ": STATE", x.machine(0), state == 4 ? 6 : state);
                due(when + ": HOLD", x.machine(5), state == 4 && kind == 1 ? 4 : 0);
                due(when + ": ALARM", x.machine(6), state == 4 && kind == 0 ? 6 : 0);
                due(when + ": COUNT", x.machine(3), repeats ? count + 1 : count);
                due(when + ": TIMER", x.machine(4), repeats ? 20 : 0);
                due(when + ": bits", x.bits(0), state <= 2 ? 2 * 272 : state == 5 ? 208 : 0);
            }
        }
    }

    private static void timerWithLimit() {
        Kit.about("3, the TIMER ends, else: KIND 0, or in 5: ALARM 6; KIND 1: HELD");
        for (int kind = 0; kind <= 1; kind++) {
            for (int state = 1; state <= 5; state++) {
                CraftHouse x = inState(state);
                x.direct(10, kind);
                int count = x.machine(3);
                x.direct(9, count);
                x.lose(0, 32000);
                x.tick(20);
                boolean holds = kind == 1 && state != 5;
                int sent = state <= 3 ? 2 : 0;
                dueMachine("KIND " + kind + " in " + state, x, 6, sent, holds ? 0 : sent, count, 0, holds ? state : 0,
                    holds ? 0 : 6, holds ? sent : 0, 0, 0);
                due("nothing is sent", x.bits(0), 0);
                if (sent > 0) {
                    due("became", x.became(1, 0), holds ? 2 : 4);
                }
            }
        }
    }

    private static void goOnFromEachHold() {
        Kit.about("promise 18, 5 go on: STATE HOLD, HOLD 0, the TIMER begins, GO");
        for (int state = 1; state <= 4; state++) {
            CraftHouse x = inState(state);
            x.direct(10, 1);
            int count = x.machine(3);
            x.direct(9, count);
            x.tick(20);
            due("HOLD", x.machine(5), state);
            x.direct(8, 33);
            due("direct(5)", x.direct(5, 0), 1);
            int sent = state <= 3 ? 2 : 0;
            dueMachine("from " + state, x, state, sent, 0, count, 33, 0, 0, sent, 0, 0);
        }
        CraftHouse x = held();
        x.direct(7, 3);
        x.lose(0, 32000);
        x.direct(5, 0);
        dueMachine("GO: what waits is sent", x, 1, 3, 0, 1, 1, 0, 0, 3, 0, 0);
        due("one unit", x.bits(0), 272);
    }

    // ---- what became of requests

    private static void clearAcknowledgesSentOnesOnly() {
        Kit.about("3, CLEAR to x: their requests are ACKNOWLEDGED, if they were SENT");
        CraftHouse x = begun(2);
        alone(x, 0, Kit.packetDown(0, 1, 7, 1, Kit.two(0)));
        due("DONE", x.became(0, 0), 9);
        bring(x, 0, 2);
        due("it stays DONE", x.became(0, 0), 9);
        due("the other", x.became(1, 0), 3);
    }

    private static void alarmLosesSentAndWaitingOnesOnly() {
        Kit.about("3, ALARM: the requests of SENT, and those that wait, are LOST (if they were SENT, WAITING)");
        CraftHouse x = begun(0);
        x.direct(7, 2);
        for (int i = 0; i < 6; i++) {
            x.request(17, 1, 0, false);
        }
        alone(x, 0, Kit.packetDown(0, 1, 1, 1, Kit.two(1)));
        alone(x, 1, Kit.packetDown(1, 1, 1, 1, Kit.two(3)));
        x.direct(4, 0);
        int[] became = {4, 5, 4, 5, 4, 4};
        for (int i = 0; i < 6; i++) {
            due(i < 2 ? "SENT" : "WAITING", x.became(i, 0), became[i]);
        }
    }

    private static void sentWhateverItWas() {
        Kit.about("3, GO: it is sent (SENT, whatever it was)");
        CraftHouse x = begun(0);
        x.direct(7, 1);
        x.request(17, 1, 0, false);
        x.request(17, 1, 0, false);
        alone(x, 0, Kit.packetDown(0, 1, 2, 1, b(0, 1, 9)));
        due("REFUSED while it waits", x.became(1, 0), 6);
        bring(x, 0, 1);
        due("SENT", x.became(1, 0), 2);
        due("its code stays", x.became(1, 1), 9);
    }

    private static void requestsThatAreNoLongerKept() {
        Kit.about("7, the latest 64 requests: what is SENT may be of an older one");
        for (int v : new int[] {1, 77}) {
            CraftHouse x = begun(2);
            for (int i = 0; i < 64; i++) {
                x.build(17, 1, 0);
                x.wipe();
            }
            // numbers 64 and 65 have the places of 0 and 1: BUILT they stay, acknowledged or lost
            bring(x, 0, v);
            due("became(1, 0)", x.became(1, 0), BAD);
            due("became(64, 0)", x.became(64, 0), 0);
            due("became(65, 0)", x.became(65, 0), 0);
            due("SENT", x.machine(7), v == 1 ? 1 : 0);
        }
        CraftHouse y = begun(0);
        y.direct(7, 1);
        y.request(17, 1, 0, false);
        y.request(17, 1, 0, false);
        for (int i = 0; i < 64; i++) {
            y.build(17, 1, 0);
            y.wipe();
        }
        bring(y, 0, 1);
        due("the waiting one is sent", y.machine(7), 1);
        due("became(65, 0)", y.became(65, 0), 0);
    }
}
