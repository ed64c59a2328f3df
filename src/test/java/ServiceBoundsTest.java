/** Boundary cases, a test for each sentence that names one: part 6 SERVICES 17, 20, 6, 3, 5, 8, 19; promises 26 to 28, 30, 32. */
public final class ServiceBoundsTest extends Trip {
    private ServiceBoundsTest() {
    }

    public static void main(String[] args) throws Exception {
        Kit.runAll(ServiceBoundsTest.class);
    }

    private static CraftHouse fresh() {
        return new CraftHouse();
    }

    /** One request on a new object. */
    private static void dueAlone(String what, int code, int service, int subtype, byte[]... data) {
        dueDone(what, code, fresh(), service, subtype, data);
    }

    // ---- 17

    private static void testWithoutData() {
        Kit.about("6, 17, 1: nothing: report 17, 2 without DATA");
        CraftHouse x = fresh();
        dueDone("nothing", 0, x, 17, 1);
        dueReport("without DATA", x, 17, 2, NOTHING);
        dueAlone("a byte", 6, 17, 1, b(0));
        dueAlone("47 bytes", 6, 17, 1, new byte[47]);
    }

    // ---- 20 and promises 26, 27

    private static void senseHasBounds() {
        Kit.about("promise 26, PARAMETER p (0 .. 15) becomes v; BAD: 0");
        CraftHouse x = fresh();
        for (int p : new int[] {Integer.MIN_VALUE, -1, 16, 17, 23, 24, Integer.MAX_VALUE}) {
            due("sense(" + p + ")", x.sense(p, 77), 0);
        }
        for (int p = 0; p < 24; p++) {
            due("it changes nothing", x.parameter(p), 0);
        }
        for (int p : new int[] {0, 1, 14, 15}) {
            due("sense(" + p + ")", x.sense(p, Integer.MIN_VALUE), 0);
            due("sense(" + p + ")", x.sense(p, Integer.MAX_VALUE), Integer.MIN_VALUE);
            due("parameter(" + p + ")", x.parameter(p), Integer.MAX_VALUE);
        }
        due("its neighbour", x.parameter(2), 0);
        due("its neighbour", x.parameter(13), 0);
    }

    private static void senseRefusedWhereThereIsAValue() {
        Kit.about("promise 26, BAD: 0, whatever the PARAMETER is");
        CraftHouse x = fresh();
        x.tick(9);
        due("sense(23)", x.sense(23, 4), 0);
        due("parameter(23)", x.parameter(23), 9);
    }

    private static void parameterHasBounds() {
        Kit.about("promise 27, BAD: 0");
        CraftHouse x = fresh();
        x.sense(0, 5);
        x.sense(15, 6);
        x.tick(7);
        for (int p : new int[] {Integer.MIN_VALUE, -1, 24, 25, 255, Integer.MAX_VALUE}) {
            due("parameter(" + p + ")", x.parameter(p), 0);
        }
        due("parameter(0)", x.parameter(0), 5);
        due("parameter(15)", x.parameter(15), 6);
        due("parameter(23)", x.parameter(23), 7);
    }

    private static void parametersOfTheCraft() {
        Kit.about("6, 16 .. 23 are the craft's; all 0 at first");
        CraftHouse x = fresh();
        for (int p = 16; p < 24; p++) {
            due("parameter(" + p + ")", x.parameter(p), 0);
        }
        number(x, 0);
        bypass(x, TEST);
        number(x, 77);
        due("16, with BYPASS too", x.parameter(16), 2);
        raise(x, new byte[7]);
        due("17", x.parameter(17), 1);
        bypass(x, b(0));
        due("18", x.parameter(18), 1);
        act(x, 11, 4, b(0), Kit.four(99), TEST);
        due("20", x.parameter(20), 3);
        due("21", x.parameter(21), 1);
        act(x, 8, 1, b(3), Kit.four(0));
        due("22", x.parameter(22), 1);
        act(x, 8, 1, b(4), Kit.four(0));
        due("19", x.parameter(19), 1);
        due("23", x.parameter(23), 3);
    }

    private static void valuesAsked() {
        Kit.about("6, 20, 1: n (1 .. 8), n x p");
        dueAlone("n 0", 6, 20, 1, b(0));
        dueAlone("n 0 and a p", 6, 20, 1, b(0, 1));
        dueAlone("n 1", 0, 20, 1, b(1, 0));
        dueAlone("n 8", 0, 20, 1, b(8, 0, 1, 2, 3, 4, 5, 6, 7));
        dueAlone("n 9", 6, 20, 1, b(9, 0, 1, 2, 3, 4, 5, 6, 7, 8));
        dueAlone("n 255", 6, 20, 1, b(255, 0));
        dueAlone("one p too few", 6, 20, 1, b(2, 0));
        dueAlone("one p too many", 6, 20, 1, b(2, 0, 1, 2));
        dueAlone("no DATA", 6, 20, 1);
    }

    private static void valuesOfNoSuchP() {
        Kit.about("6, 20, 1: 10 no such p (0 .. 23)");
        for (int place = 0; place < 8; place++) {
            for (int p : new int[] {23, 24, 255}) {
                byte[] row = new byte[8];
                row[place] = (byte) p;
                CraftHouse x = fresh();
                dueDone("p " + p + " at " + place, p == 23 ? 0 : 10, x, 20, 1, b(8), row);
                due("a report", newest(x, 20, 2) < 0 ? 0 : 1, p == 23 ? 1 : 0);
            }
        }
    }

    private static void valuesReported() {
        Kit.about("6, 20, 1: report 20, 2: n, n x (p, value 4)");
        CraftHouse x = fresh();
        for (int p = 0; p < 16; p++) {
            x.sense(p, Integer.MIN_VALUE + p);
        }
        dueDone("eight", 0, x, 20, 1, b(8, 0, 15, 15, 1, 2, 3, 4, 5));
        byte[] want = b(8);
        for (int p : new int[] {0, 15, 15, 1, 2, 3, 4, 5}) {
            want = Kit.join(want, b(p), Kit.four(Integer.MIN_VALUE + p));
        }
        dueReport("eight", x, 20, 2, want);
        dueDone("one", 0, x, 20, 1, b(1, 20));
        dueReport("DONE as it was then", x, 20, 2, Kit.join(b(1, 20), Kit.four(1)));
    }

    private static byte[] pairs(int... pAndValue) {
        byte[] row = b(pAndValue.length / 2);
        for (int i = 0; i < pAndValue.length; i += 2) {
            row = Kit.join(row, b(pAndValue[i]), Kit.four(pAndValue[i + 1]));
        }
        return row;
    }

    private static void valuesSet() {
        Kit.about("6, 20, 3: n (1 .. 6), n x (p, value 4)");
        dueAlone("n 0", 6, 20, 3, b(0));
        dueAlone("n 0 and one", 6, 20, 3, b(0, 1), Kit.four(5));
        dueAlone("n 7", 6, 20, 3, pairs(0, 1, 1, 1, 2, 1, 3, 1, 4, 1, 5, 1, 6, 1));
        dueAlone("one too few", 6, 20, 3, b(2, 1), Kit.four(5));
        dueAlone("a byte too few", 6, 20, 3, b(1, 1, 0, 0, 0));
        dueAlone("a byte too many", 6, 20, 3, b(1, 1), Kit.four(5), b(0));
        CraftHouse one = fresh();
        dueDone("n 1", 0, one, 20, 3, pairs(15, -1));
        due("parameter(15)", one.parameter(15), -1);
        CraftHouse six = fresh();
        dueDone("n 6", 0, six, 20, 3, pairs(0, Integer.MIN_VALUE, 1, 2, 2, 3, 3, 4, 4, 5, 15, Integer.MAX_VALUE));
        due("the first", six.parameter(0), Integer.MIN_VALUE);
        due("the last", six.parameter(15), Integer.MAX_VALUE);
        due("none behind it", six.parameter(5), 0);
    }

    private static void valuesThatCantBeSet() {
        Kit.about("6, 20, 3: 10 a p above 15");
        for (int p : new int[] {15, 16, 23, 24, 255}) {
            for (int place = 0; place < 6; place++) {
                int[] all = {0, 9, 1, 9, 2, 9, 3, 9, 4, 9, 5, 9};
                all[2 * place] = p;
                CraftHouse x = fresh();
                dueDone("p " + p + " at " + place, p == 15 ? 0 : 10, x, 20, 3, pairs(all));
                due("nothing is changed", x.parameter(place == 0 ? 1 : 0), p == 15 ? 9 : 0);
                due("nothing is changed", x.parameter(place == 5 ? 4 : 5), p == 15 ? 9 : 0);
            }
        }
    }

    private static void valuesSetAndNoOthers() {
        Kit.about("6, 20, 3: n x (p, value 4), and nothing behind them");
        for (int v = 0; v < 400; v++) {
            byte[] packet = Kit.packetUp(0, 0, 20, 3, pairs(0, v));
            int behind = packet[packet.length - 2] & 255;
            // CHECK looks like a p there
            if (behind >= 1 && behind <= 15) {
                CraftHouse x = fresh();
                bypass(x, packet);
                x.tick(1);
                due("DONE", x.parameter(20), 1);
                due("parameter(0)", x.parameter(0), v);
                for (int p = 1; p < 16; p++) {
                    due("parameter(" + p + ")", x.parameter(p), 0);
                }
            }
        }
    }

    private static void valuesSetInOrder() {
        Kit.about("6, 20, 3: they become these, in order");
        CraftHouse x = fresh();
        dueDone("one p six times", 0, x, 20, 3, pairs(7, 1, 7, 2, 7, 3, 7, 4, 7, 5, 7, 6));
        due("the last", x.parameter(7), 6);
    }

    // ---- 6 and promise 28

    private static void memoryHasBounds() {
        Kit.about("promise 28, BAD; MEMORY (1024 bytes, 0 at first)");
        CraftHouse x = fresh();
        for (int address : new int[] {Integer.MIN_VALUE, -1, 1024, 1025, 65535, Integer.MAX_VALUE}) {
            due("memory(" + address + ")", x.memory(address), BAD);
        }
        for (int address : new int[] {0, 1, 767, 768, 1022, 1023}) {
            due("memory(" + address + ")", x.memory(address), 0);
        }
    }

    private static byte[] load(int address, int n) {
        return Kit.join(Kit.two(address), b(n), Kit.filled(NOTHING, n, 0x99));
    }

    private static void memoryLoaded() {
        Kit.about("6, 6, 2: address 2, n (1 .. 32), n bytes");
        dueAlone("n 0", 6, 6, 2, load(0, 0));
        dueAlone("n 0 and a byte", 6, 6, 2, Kit.two(0), b(0, 1));
        dueAlone("n 33", 6, 6, 2, load(0, 33));
        dueAlone("a byte too few", 6, 6, 2, Kit.two(0), b(2, 1));
        dueAlone("a byte too many", 6, 6, 2, Kit.two(0), b(2, 1, 1, 1));
        dueAlone("no n", 6, 6, 2, Kit.two(0));
        for (int n : new int[] {1, 31, 32}) {
            CraftHouse x = fresh();
            dueDone("n " + n, 0, x, 6, 2, load(100, n));
            due("ahead", x.memory(99), 0);
            due("the first", x.memory(100), 0x99);
            due("the last", x.memory(99 + n), 0x99);
            due("behind", x.memory(100 + n), 0);
        }
    }

    private static void memoryBeyond() {
        Kit.about("6, 6, 2: 11 beyond 1023; 12 one at 768 or above");
        int[][] rows = {{0, 1, 0}, {767, 1, 0}, {736, 32, 0}, {737, 32, 12}, {766, 2, 0}, {767, 2, 12}, {768, 1, 12},
            {1023, 1, 12}, {1022, 2, 12}, {992, 32, 12}, {993, 32, 11}, {1023, 2, 11}, {1024, 1, 11}, {65535, 1, 11},
            {65535, 32, 11}, {65504, 32, 11}};
        for (int[] row : rows) {
            CraftHouse x = fresh();
            dueDone("at " + row[0] + ", n " + row[1], row[2], x, 6, 2, load(row[0], row[1]));
            due("memory", x.memory(Math.min(row[0], 1023)), row[2] == 0 ? 0x99 : 0);
            due("the last below 768", x.memory(767), row[2] == 0 && row[0] + row[1] > 767 ? 0x99 : 0);
            due("768", x.memory(768), 0);
        }
    }

    private static void memoryDumped() {
        Kit.about("6, 6, 5: address 2, n (1 .. 64): 11: report 6, 6: address, n, bytes");
        int[][] rows = {{0, 0, 6}, {0, 1, 0}, {0, 64, 0}, {0, 65, 6}, {0, 255, 6}, {960, 64, 0}, {961, 64, 11}, {1023, 1, 0},
            {1023, 2, 11}, {1024, 1, 11}, {65535, 1, 11}};
        for (int[] row : rows) {
            CraftHouse x = fresh();
            act(x, 6, 2, load(0, 32));
            act(x, 6, 2, load(736, 32));
            dueDone("at " + row[0] + ", n " + row[1], row[2], x, 6, 5, Kit.two(row[0]), b(row[1]));
            if (row[2] == 0) {
                byte[] bytes = new byte[row[1]];
                for (int i = 0; i < row[1]; i++) {
                    bytes[i] = (byte) x.memory(row[0] + i);
                }
                dueReport("at " + row[0] + ", n " + row[1], x, 6, 6, Kit.join(Kit.two(row[0]), b(row[1]), bytes));
            } else {
                due("no report", newest(x, 6, 6), -1);
            }
        }
        dueAlone("no n", 6, 6, 5, Kit.two(0));
        dueAlone("a byte too many", 6, 6, 5, Kit.two(0), b(1, 1));
    }

    private static void memoryChecked() {
        Kit.about("6, 6, 9: address 2, n 2 (1 .. 65535): 11: report 6, 10: address, n, CHECK of these");
        int[][] rows = {{0, 0, 6}, {0, 1, 0}, {0, 2, 0}, {0, 1024, 0}, {0, 1025, 11}, {1, 1023, 0}, {1, 1024, 11}, {1023, 1, 0},
            {1023, 2, 11}, {1024, 1, 11}, {1024, 0, 6}, {0, 65535, 11}, {65535, 1, 11}, {65535, 65535, 11}};
        for (int[] row : rows) {
            CraftHouse x = fresh();
            act(x, 6, 2, load(0, 2));
            dueDone("at " + row[0] + ", n " + row[1], row[2], x, 6, 9, Kit.two(row[0]), Kit.two(row[1]));
            if (row[2] == 0) {
                byte[] bytes = new byte[row[1]];
                for (int i = row[0]; i < 2 && i < row[0] + row[1]; i++) {
                    bytes[i - row[0]] = (byte) 0x99;
                }
                dueReport("at " + row[0], x, 6, 10, Kit.join(Kit.two(row[0]), Kit.two(row[1]), Kit.two(Kit.checkOf(bytes))));
            } else {
                due("no report", newest(x, 6, 10), -1);
            }
        }
        dueAlone("a byte too few", 6, 6, 9, Kit.two(0), b(1));
        dueAlone("a byte too many", 6, 6, 9, Kit.two(0), Kit.two(1), b(1));
    }

    // ---- 3 and promise 30

    private static byte[] structure(int s, int interval, int... p) {
        return Kit.join(b(s), Kit.two(interval), b(p.length), b(p));
    }

    private static void structuresDefined() {
        Kit.about("6, 3, 1: s, interval 2 (1 .. 65535), n (1 .. 8), n x p");
        dueAlone("interval 0", 6, 3, 1, structure(0, 0, 1));
        dueAlone("n 0", 6, 3, 1, structure(0, 1));
        dueAlone("n 0 and a p", 6, 3, 1, b(0, 0, 1, 0, 5));
        dueAlone("n 9", 6, 3, 1, structure(0, 1, 0, 1, 2, 3, 4, 5, 6, 7, 8));
        dueAlone("a p too few", 6, 3, 1, b(0, 0, 1, 2, 5));
        dueAlone("a p too many", 6, 3, 1, b(0, 0, 1, 2, 5, 6, 7));
        for (int interval : new int[] {1, 255, 256, 65535}) {
            CraftHouse x = fresh();
            dueDone("interval " + interval, 0, x, 3, 1, structure(0, interval, 23));
            dueStructure(x, 0, 1, 0, interval, 0, 1, 23, BAD);
        }
        CraftHouse x = fresh();
        dueDone("n 8", 0, x, 3, 1, structure(5, 1, 0, 23, 2, 22, 4, 21, 6, 20));
        dueStructure(x, 5, 1, 0, 1, 0, 8, 0, 23, 2, 22, 4, 21, 6, 20, BAD);
    }

    private static void structuresOfNoSuchP() {
        Kit.about("6, 3, 1: 10");
        for (int place = 0; place < 8; place++) {
            for (int p : new int[] {23, 24, 255}) {
                int[] all = new int[8];
                all[place] = p;
                CraftHouse x = fresh();
                dueDone("p " + p + " at " + place, p == 23 ? 0 : 10, x, 3, 1, structure(0, 1, all));
                due("it is there", x.structure(0, 0), p == 23 ? 1 : 0);
            }
        }
    }

    private static void structuresThatAre() {
        Kit.about("6, 3, 1: 13 no such s (0 to 5), or it is there; 10 is told ahead of it");
        CraftHouse x = fresh();
        for (int s : new int[] {0, 5}) {
            dueDone("s " + s, 0, x, 3, 1, structure(s, 7, 1));
            dueDone("s " + s + " is there", 13, x, 3, 1, structure(s, 9, 2));
            dueStructure(x, s, 1, 0, 7, 0, 1, 1, BAD);
            dueDone("s " + s + " is there, p 24", 10, x, 3, 1, structure(s, 9, 24));
        }
        dueDone("s 6", 13, x, 3, 1, structure(6, 7, 1));
        dueDone("s 255", 13, x, 3, 1, structure(255, 7, 1));
        dueDone("s 6, p 24", 10, x, 3, 1, structure(6, 7, 24));
        due("its neighbour", x.structure(1, 0), 0);
        due("its neighbour", x.structure(4, 0), 0);
    }

    private static void structuresThatAreNotThere() {
        Kit.about("6, 3, 3, 3, 5, 3, 6, 3, 27: 13 not there");
        for (int subtype : new int[] {3, 5, 6, 27}) {
            CraftHouse x = fresh();
            dueDone("s 4", 0, x, 3, 1, structure(4, 7, 1));
            dueDone("s 4", 0, x, 3, subtype, b(4));
            for (int s : new int[] {0, 3, 5, 6, 7, 255}) {
                dueDone("s " + s, 13, x, 3, subtype, b(s));
            }
            dueDone("no s", 6, x, 3, subtype);
            dueDone("two s", 6, x, 3, subtype, b(4, 4));
        }
    }

    private static void structuresThatGo() {
        Kit.about("6, 3, 3: 13 it is not there, or on: it is gone");
        CraftHouse x = fresh();
        act(x, 3, 1, structure(2, 50, 1, 2));
        act(x, 3, 5, b(2));
        dueDone("on", 13, x, 3, 3, b(2));
        due("it is there", x.structure(2, 0), 1);
        act(x, 3, 6, b(2));
        dueDone("off", 0, x, 3, 3, b(2));
        dueStructure(x, 2, 0, BAD, BAD, BAD, BAD, BAD);
        dueDone("gone", 13, x, 3, 3, b(2));
        dueDone("anew", 0, x, 3, 1, structure(2, 60, 3));
        dueStructure(x, 2, 1, 0, 60, 0, 1, 3, BAD);
    }

    private static void structuresWait() {
        Kit.about("6, 3, 5, 3, 6: on (its wait is the interval), off (its wait, 0 ahead of any, stays)");
        CraftHouse x = fresh();
        act(x, 3, 1, structure(0, 5, 1));
        dueStructure(x, 0, 1, 0, 5, 0);
        act(x, 3, 6, b(0));
        dueStructure(x, 0, 1, 0, 5, 0);
        act(x, 3, 5, b(0));
        dueStructure(x, 0, 1, 1, 5, 5);
        x.tick(3);
        dueStructure(x, 0, 1, 1, 5, 2);
        act(x, 3, 6, b(0));
        dueStructure(x, 0, 1, 0, 5, 1);
        x.tick(9);
        dueStructure(x, 0, 1, 0, 5, 1);
        act(x, 3, 5, b(0));
        dueStructure(x, 0, 1, 1, 5, 5);
        x.tick(2);
        act(x, 3, 5, b(0));
        dueStructure(x, 0, 1, 1, 5, 5);
    }

    private static void structuresReport() {
        Kit.about("6, EACH TICK: STRUCTURES in order that are on: wait one less; at 0 it is the interval, and its report");
        for (int interval : new int[] {1, 2, 3}) {
            CraftHouse x = fresh();
            act(x, 3, 1, structure(3, interval, 23));
            act(x, 3, 5, b(3));
            x.lose(1, 64000);
            x.tick(interval - 1);
            due("interval " + interval + ": none yet", x.craft(14), 0);
            x.tick(1);
            due("interval " + interval + ": one", x.craft(14), 1);
            due("wait", x.structure(3, 3), interval);
            x.tick(interval);
            due("interval " + interval + ": two", x.craft(14), 2);
            x.carry(1, 64000);
            dueReport("its report", x, 3, 25, Kit.join(b(3, 1, 23), Kit.four(2 + 2 * interval)));
        }
        CraftHouse two = fresh();
        act(two, 3, 1, structure(5, 1, 0));
        act(two, 3, 1, structure(0, 1, 0));
        send(two, 0, 3, 5, b(5));
        act(two, 3, 5, b(0));
        two.lose(1, 64000);
        two.tick(1);
        two.carry(1, 64000);
        due("the first, s", two.archivedByte(1, 13), 0);
        due("the second, s", two.archivedByte(0, 13), 5);
        CraftHouse far = fresh();
        act(far, 3, 1, structure(0, 65535, 0));
        act(far, 3, 5, b(0));
        for (int i = 0; i < 327; i++) {
            far.tick(200);
        }
        far.tick(134);
        due("65534 ticks", far.craft(14), 0);
        due("wait", far.structure(0, 3), 1);
        far.tick(1);
        due("65535 ticks", far.craft(14), 1);
    }

    private static void structuresReportedAtOnce() {
        Kit.about("6, 3, 27: its report 3, 25: s, n, n x (p, value 4); on or off");
        CraftHouse x = fresh();
        x.sense(0, -1);
        x.sense(15, Integer.MIN_VALUE);
        act(x, 3, 1, structure(1, 9, 0, 15, 0, 15, 1, 1, 1, 16));
        dueDone("off", 0, x, 3, 27, b(1));
        byte[] want = b(1, 8);
        int[] ps = {0, 15, 0, 15, 1, 1, 1, 16};
        int[] values = {-1, Integer.MIN_VALUE, -1, Integer.MIN_VALUE, 0, 0, 0, 2};
        for (int i = 0; i < 8; i++) {
            want = Kit.join(want, b(ps[i]), Kit.four(values[i]));
        }
        dueReport("off", x, 3, 25, want);
        due("wait stays", x.structure(1, 3), 0);
        act(x, 3, 5, b(1));
        int made = x.craft(14);
        act(x, 3, 27, b(1));
        due("on", x.craft(14), made + 1);
        due("wait goes on", x.structure(1, 3), 8);
    }

    private static void structureHasBounds() {
        Kit.about("promise 30, BAD: also of one that is not there, but 0");
        CraftHouse x = fresh();
        act(x, 3, 1, structure(0, 3, 1, 2));
        act(x, 3, 1, structure(5, 3, 1, 2, 3, 4, 5, 6, 7, 8));
        for (int s : new int[] {Integer.MIN_VALUE, -1, 6, 7, Integer.MAX_VALUE}) {
            for (int what : new int[] {0, 1, 5}) {
                due("structure(" + s + ", " + what + ")", x.structure(s, what), BAD);
            }
        }
        for (int what : new int[] {Integer.MIN_VALUE, -1, 7, 8, 13, Integer.MAX_VALUE}) {
            due("structure(0, " + what + ")", x.structure(0, what), BAD);
        }
        due("structure(0, 6)", x.structure(0, 6), 2);
        due("structure(5, 12)", x.structure(5, 12), 8);
        due("structure(5, 13)", x.structure(5, 13), BAD);
        due("structure(5, -1)", x.structure(5, -1), BAD);
        due("structure(1, 0)", x.structure(1, 0), 0);
        for (int what : new int[] {Integer.MIN_VALUE, -1, 1, 2, 3, 4, 5, 12}) {
            due("structure(1, " + what + ")", x.structure(1, what), BAD);
        }
    }

    // ---- 5, 8

    private static void eventsThatAre() {
        Kit.about("6, 5, 5, 5, 6: event: 14 none such (0 to 31)");
        for (int subtype = 5; subtype <= 6; subtype++) {
            CraftHouse x = fresh();
            for (int e : new int[] {0, 31}) {
                dueDone("event " + e, 0, x, 5, subtype, b(e));
                due("event(" + e + ", 0)", x.event(e, 0), subtype == 5 ? 1 : 0);
            }
            due("event(1, 0)", x.event(1, 0), 1);
            due("event(30, 0)", x.event(30, 0), 1);
            dueDone("event 32", 14, x, 5, subtype, b(32));
            dueDone("event 255", 14, x, 5, subtype, b(255));
            due("event(0, 0)", x.event(0, 0), subtype == 5 ? 1 : 0);
            dueDone("no event", 6, x, 5, subtype);
            dueDone("two", 6, x, 5, subtype, b(0, 0));
        }
    }

    private static void eventsReportedOrNot() {
        Kit.about("6, AN EVENT: 22 counts it; if on report 5, 1 + e/8 (cut off): e, value 4");
        for (int e : new int[] {0, 7, 8, 15, 16, 23, 24, 31}) {
            CraftHouse x = fresh();
            dueDone("event " + e, 0, x, 8, 1, b(3), Kit.four(e - 32));
            dueReport("event " + e, x, 5, 1 + e / 8, Kit.join(b(e), Kit.four(e - 32)));
            dueDone("off", 0, x, 5, 6, b(e));
            int made = x.craft(14);
            dueDone("event " + e + " is off", 0, x, 8, 1, b(3), Kit.four(e));
            due("no report", x.craft(14), made + 3);
            due("both are counted", x.parameter(22), 2);
            dueDone("on", 0, x, 5, 5, b(e));
            made = x.craft(14);
            dueDone("event " + e + " is on", 0, x, 8, 1, b(3), Kit.four(e));
            due("a report", x.craft(14), made + 4);
        }
    }

    private static void functionsThatAre() {
        Kit.about("6, 8, 1: 15 k is above 3");
        for (int k : new int[] {0, 1, 2, 3, 4, 5, 255}) {
            CraftHouse x = fresh();
            int code = k > 3 ? 15 : k == 2 ? 16 : 0;
            dueDone("k " + k, code, x, 8, 1, b(k), Kit.four(-9));
            due("k " + k + ": PARAMETER 0", x.parameter(0), k == 1 ? -9 : 0);
            due("k " + k + ": events", x.parameter(22), k == 3 ? 1 : 0);
            due("k " + k + ": became", x.became(0, 0), k > 3 ? 8 : k == 2 ? 10 : 9);
        }
        dueAlone("a byte too few", 6, 8, 1, b(0, 0, 0, 0));
        dueAlone("a byte too many", 6, 8, 1, b(0), Kit.four(0), b(0));
    }

    private static void functionWithAnyArgument() {
        Kit.about("6, 8, 1: 3: EVENT argument & 31, with the argument");
        int[] arguments = {0, 31, 32, 63, -1, -32, Integer.MIN_VALUE, Integer.MAX_VALUE};
        for (int argument : arguments) {
            CraftHouse x = fresh();
            dueDone("argument " + argument, 0, x, 8, 1, b(3), Kit.four(argument));
            int e = argument & 31;
            dueReport("argument " + argument, x, 5, 1 + e / 8, Kit.join(b(e), Kit.four(argument)));
        }
    }

    // ---- 19 and promise 32

    private static void actionsOfNoSuchEvent() {
        Kit.about("6, 19, 1, 19, 2, 19, 4, 19, 5: 14; 19 it has one, it has none");
        CraftHouse x = fresh();
        for (int e : new int[] {0, 31}) {
            for (int subtype : new int[] {2, 4, 5}) {
                dueDone("event " + e + " has none", 19, x, 19, subtype, b(e));
            }
            dueDone("event " + e, 0, x, 19, 1, b(e, 1), TEST);
            dueDone("event " + e + " has one", 19, x, 19, 1, b(e, 0), Kit.filled(TEST, 20, 0));
            due("it stays on", x.event(e, 2), 1);
            due("its bytes", x.event(e, 3), 13);
        }
        CraftHouse y = fresh();
        for (int e : new int[] {32, 255}) {
            dueDone("event " + e, 14, y, 19, 1, b(e, 1), TEST);
            for (int subtype : new int[] {2, 4, 5}) {
                dueDone("event " + e, 14, y, 19, subtype, b(e));
            }
        }
        for (int subtype : new int[] {2, 4, 5}) {
            dueDone("no event", 6, y, 19, subtype);
            dueDone("two", 6, y, 19, subtype, b(0, 0));
        }
    }

    private static void actionsOnAndOff() {
        Kit.about("6, 19, 1: on (0, 1); 19, 4, 19, 5: on, off; 19, 2: gone");
        for (int on : new int[] {0, 1}) {
            CraftHouse x = fresh();
            dueDone("on " + on, 0, x, 19, 1, b(9, on), TEST);
            due("event(9, 1)", x.event(9, 1), 1);
            due("event(9, 2)", x.event(9, 2), on);
            dueDone("off", 0, x, 19, 5, b(9));
            due("event(9, 2)", x.event(9, 2), 0);
            dueDone("off again", 0, x, 19, 5, b(9));
            dueDone("on", 0, x, 19, 4, b(9));
            due("event(9, 2)", x.event(9, 2), 1);
            dueDone("gone", 0, x, 19, 2, b(9));
            for (int what = 1; what <= 3; what++) {
                due("event(9, " + what + ")", x.event(9, what), 0);
            }
            dueDone("it has none", 19, x, 19, 2, b(9));
        }
        dueAlone("on 2", 6, 19, 1, b(9, 2), TEST);
        dueAlone("on 255", 6, 19, 1, b(9, 255), TEST);
    }

    private static void actionsOfPackets() {
        Kit.about("6, 19, 1: a packet of 13 .. 40 bytes");
        for (int n : new int[] {0, 12, 13, 14, 39, 40, 41, 45}) {
            CraftHouse x = fresh();
            boolean fits = n >= 13 && n <= 40;
            dueDone(n + " bytes", fits ? 0 : 6, x, 19, 1, b(9, 1), new byte[n]);
            due(n + " bytes: event(9, 1)", x.event(9, 1), fits ? 1 : 0);
            due(n + " bytes: event(9, 3)", x.event(9, 3), fits ? n : 0);
        }
    }

    private static void actionsOfAllEvents() {
        Kit.about("6, 19: each of the 32 events may have an ACTION of 40 bytes");
        CraftHouse x = fresh();
        for (int e = 0; e < 32; e++) {
            x.wipe();
            x.feed(e << 8 | 1, 2);
            for (int i = 0; i < 10; i++) {
                x.feed(e, 4);
            }
            x.request(19, 1, 0, true);
            if (e % 4 == 3) {
                x.carry(0, 32000);
                x.tick(1);
            }
        }
        due("DONE", x.parameter(20), 32);
        for (int e = 0; e < 32; e++) {
            due("event(" + e + ", 3)", x.event(e, 3), 40);
        }
    }

    private static void actionsOfSeveralEvents() {
        Kit.about("6, 19: each event has its own ACTION, whatever others went");
        CraftHouse x = fresh();
        for (int e : new int[] {7, 3, 31}) {
            byte[] sets = Kit.packetUp(1, 0, 20, 3, e == 3 ? pairs(0, 33, 1, 44) : pairs(0, e));
            act(x, 19, 1, b(e, 1), sets);
        }
        int[] sizes = {19, 24, 19};
        int[] events = {7, 3, 31};
        for (int i = 0; i < 3; i++) {
            due("event(.., 1)", x.event(events[i], 1), 1);
            due("event(.., 2)", x.event(events[i], 2), 1);
            due("event(.., 3)", x.event(events[i], 3), sizes[i]);
        }
        act(x, 19, 2, b(7));
        due("event(7, 1)", x.event(7, 1), 0);
        act(x, 8, 1, b(3), Kit.four(31));
        x.tick(1);
        due("of 31", x.parameter(0), 31);
        act(x, 8, 1, b(3), Kit.four(3));
        x.tick(1);
        due("of 3", x.parameter(0), 33);
        due("of 3", x.parameter(1), 44);
        due("REFUSED", x.parameter(18), 0);
        act(x, 19, 5, b(31));
        due("off", x.event(31, 2), 0);
        due("the other stays on", x.event(3, 2), 1);
    }

    private static byte[] raising(int argument) {
        return Kit.packetUp(5, 0, 8, 1, Kit.join(b(3), Kit.four(argument)));
    }

    private static void actionsUpToADepth() {
        Kit.about("6, AN EVENT: an ACTION that is on, and the DEPTH of what it came of is below 4");
        // events 0 to 6: the ACTION of each raises the next one; what came of the FRAME has DEPTH 0
        CraftHouse x = fresh();
        for (int e = 0; e < 7; e++) {
            send(x, 0, 19, 1, b(e, 1), raising(e + 1));
            x.tick(1);
        }
        send(x, 0, 8, 1, b(3), Kit.four(0));
        x.tick(1);
        for (int depth = 1; depth <= 4; depth++) {
            due("events at DEPTH " + (depth - 1), x.parameter(22), depth);
            due("a REQUEST of DEPTH " + depth, x.craft(6), 1);
            x.tick(1);
        }
        due("events at DEPTH 4", x.parameter(22), 5);
        due("none more", x.craft(6), 0);
        x.tick(5);
        due("events", x.parameter(22), 5);
    }

    private static void actionsOfAWatchAndOfTheSchedule() {
        Kit.about("6, AN EVENT: a DEPTH one more (0 for what comes of FRAMES, the SCHEDULE, WATCHES)");
        CraftHouse watched = fresh();
        act(watched, 19, 1, b(0, 1), raising(0));
        act(watched, 12, 5, watch(0, 1, 0, 0, 1, 0));
        watched.sense(1, 1);
        act(watched, 12, 1, b(0));
        watched.tick(1);
        due("the WATCH's event, and the ACTION's", watched.parameter(22), 2);
        watched.tick(10);
        due("events of a WATCH", watched.parameter(22), 5);
        CraftHouse scheduled = fresh();
        act(scheduled, 19, 1, b(0, 1), raising(0));
        act(scheduled, 11, 1);
        act(scheduled, 11, 4, b(0), Kit.four(6), raising(0));
        scheduled.tick(20);
        due("events of the SCHEDULE", scheduled.parameter(22), 5);
    }

    private static void actionsThatAreOff() {
        Kit.about("6, AN EVENT: if it has an ACTION that is on");
        CraftHouse x = fresh();
        act(x, 19, 1, b(0, 0), TEST);
        act(x, 19, 1, b(1, 1), TEST);
        act(x, 8, 1, b(3), Kit.four(0));
        due("off", x.craft(6), 0);
        act(x, 8, 1, b(3), Kit.four(1));
        due("on", x.craft(6), 1);
        act(x, 8, 1, b(3), Kit.four(2));
        due("none", x.craft(6), 0);
        // its reports off, the ACTION is looked at all the same
        act(x, 5, 6, b(1));
        act(x, 8, 1, b(3), Kit.four(1));
        due("reports off", x.craft(6), 1);
    }

    private static void actionsThatAreRefused() {
        Kit.about("6, AN EVENT: its packet is looked at: with a code, REFUSED one more");
        CraftHouse x = fresh();
        act(x, 19, 1, b(0, 1), new byte[13]);
        send(x, 0, 8, 1, b(3), Kit.four(0));
        x.tick(3);
        x.carry(1, 64000);
        due("REFUSED", x.parameter(18), 1);
        dueReport("its length tells 7", x, 1, 2, b(0, 0, 1));
        due("DONE all the same", x.parameter(20), 2);
    }

    private static void eventHasBounds() {
        Kit.about("promise 32, BAD");
        CraftHouse x = fresh();
        act(x, 19, 1, b(31, 1), TEST);
        for (int e : new int[] {Integer.MIN_VALUE, -1, 32, 33, Integer.MAX_VALUE}) {
            for (int what = 0; what < 4; what++) {
                due("event(" + e + ", " + what + ")", x.event(e, what), BAD);
            }
        }
        for (int what : new int[] {Integer.MIN_VALUE, -1, 4, 5, Integer.MAX_VALUE}) {
            due("event(0, " + what + ")", x.event(0, what), BAD);
            due("event(31, " + what + ")", x.event(31, what), BAD);
        }
        int[] want = {1, 1, 1, 13};
        for (int what = 0; what < 4; what++) {
            due("event(31, " + what + ")", x.event(31, what), want[what]);
            due("event(30, " + what + ")", x.event(30, what), what == 0 ? 1 : 0);
        }
    }
}
