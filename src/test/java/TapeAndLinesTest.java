/** Promises 1 to 13: a new object, the tape and its codes, the lines. */
public final class TapeAndLinesTest extends Trip {
    private TapeAndLinesTest() {
    }

    public static void main(String[] args) {
        promise1();
        promise2();
        promise3();
        promise4();
        promise5();
        promise6Units();
        promise6Blocks();
        promises7And8();
        promise9();
        promise10();
        promise11();
        promise12();
        promise13();
        Kit.end();
    }

    private static void promise1() {
        Kit.about("promise 1");
        Kit.due("BAD", CraftHouse.BAD, -1);
        Kit.due("NONE", CraftHouse.NONE, -2);
        Kit.due("FULL", CraftHouse.FULL, -3);
        CraftHouse x = new CraftHouse();
        Kit.due("wipe", x.wipe(), 0);
        Kit.due("bits up", x.bits(0), 0);
        Kit.due("bits down", x.bits(1), 0);
        Kit.due("requests", x.requests(), 0);
        int[] machine = {6, 0, 0, 1, 0, 0, 0, 0, 0, 0, 3, 8, 20, 0};
        for (int i = 0; i < machine.length; i++) {
            Kit.due("machine(" + i + ")", x.machine(i), machine[i]);
        }
        int[] came = {0, 0, 0, 0, 0, 0, 0, 0, 0, NONE, NONE};
        for (int i = 0; i < came.length; i++) {
            Kit.due("came(" + i + ")", x.came(i), came[i]);
        }
        for (int i = 0; i < 16; i++) {
            Kit.due("craft(" + i + ")", x.craft(i), i == 5 ? 16 : 0);
        }
        for (int p = 0; p < 24; p++) {
            Kit.due("parameter(" + p + ")", x.parameter(p), 0);
            for (int k = 0; k < 3; k++) {
                Kit.due("shown(" + p + ", " + k + ")", x.shown(p, k), 0);
            }
        }
        for (int i = 0; i < 1024; i++) {
            Kit.due("memory(" + i + ")", x.memory(i), 0);
        }
        for (int i = 0; i < 6; i++) {
            Kit.due("structure(" + i + ", 0)", x.structure(i, 0), 0);
            Kit.due("watch(" + i + ", 0)", x.watch(i, 0), 0);
            Kit.due("entry(NONE, " + i + ")", x.entry(NONE, i), i < 2 ? 0 : 1);
        }
        for (int i = 0; i < 32; i++) {
            for (int k = 0; k < 4; k++) {
                Kit.due("event(" + i + ", " + k + ")", x.event(i, k), k == 0 ? 1 : 0);
            }
        }
        int[] store = {0, 0, 0, 0, 0, 0, NONE, NONE};
        for (int i = 0; i < store.length; i++) {
            Kit.due("store(0, " + i + ")", x.store(0, i), store[i]);
            Kit.due("store(1, " + i + ")", x.store(1, i), store[i]);
        }
        Kit.due("ear(0, 0)", x.ear(0, 0), 0);
        Kit.due("ear(1, 0)", x.ear(1, 0), 0);
        Kit.due("tick(0)", x.tick(0), 0);
        Kit.due("archived(0, 0)", x.archived(0, 0), BAD);
        Kit.due("became(0, 0)", x.became(0, 0), BAD);
    }

    private static void promise2() {
        Kit.about("promise 2");
        CraftHouse x = new CraftHouse();
        Kit.due("feed(.., 4)", x.feed(0x81234567, 4), 4);
        Kit.due("feed(.., 3)", x.feed(0x89ABCDEF, 3), 7);
        Kit.due("feed(.., 2)", x.feed(0x11223344, 2), 9);
        Kit.due("feed(-1, 1)", x.feed(-1, 1), 10);
        Kit.due("feed(.., 0)", x.feed(5, 0), BAD);
        Kit.due("feed(.., 5)", x.feed(5, 5), BAD);
        Kit.due("feed(.., -1)", x.feed(5, -1), BAD);
        Kit.due("feed(.., least)", x.feed(5, Integer.MIN_VALUE), BAD);
        Kit.dueTape("feed", x, Kit.hex("81234567 ABCDEF 3344 FF"));
        for (int i = 0; i < 60; i++) {
            x.feed(i, 4);
        }
        Kit.due("feed up to 253", x.feed(0, 3), 253);
        Kit.due("feed beyond 256", x.feed(0, 4), FULL);
        Kit.due("feed to 256", x.feed(0x010203, 3), 256);
        Kit.due("feed at 256", x.feed(0, 1), FULL);
        Kit.due("BAD ahead of FULL", x.feed(0, 5), BAD);
        Kit.due("the last byte", x.taped(255), 3);
        Kit.due("how many", x.wipe(), 256);
    }

    private static void promise3() {
        Kit.about("promise 3");
        CraftHouse x = new CraftHouse();
        Kit.due("taped(0) of none", x.taped(0), BAD);
        x.feed(0x80FF, 2);
        Kit.due("taped(0)", x.taped(0), 0x80);
        Kit.due("taped(1)", x.taped(1), 0xFF);
        Kit.due("taped(2)", x.taped(2), BAD);
        Kit.due("taped(-1)", x.taped(-1), BAD);
        Kit.due("taped(greatest)", x.taped(Integer.MAX_VALUE), BAD);
    }

    private static void promise4() {
        Kit.about("promise 4");
        CraftHouse x = new CraftHouse();
        x.feed(1, 3);
        Kit.due("wipe", x.wipe(), 3);
        Kit.due("wipe again", x.wipe(), 0);
        Kit.due("taped(0)", x.taped(0), BAD);
        Kit.due("feed", x.feed(1, 1), 1);
    }

    private static void promise5() {
        Kit.about("promise 5");
        CraftHouse x = new CraftHouse();
        Kit.due("check of none", x.check(), 0xFFFF);
        Kit.feed(x, "123456789".getBytes());
        Kit.due("check of 123456789", x.check(), 0x29B1);
        Kit.due("check again", x.check(), 0x29B1);
        Kit.due("how many", x.wipe(), 9);
        x.feed(0, 1);
        Kit.due("check of 00", x.check(), 0xE1F0);
        byte[] many = new byte[255];
        for (int i = 0; i < many.length; i++) {
            many[i] = (byte) (i * 37 + 11);
        }
        x.wipe();
        Kit.feed(x, many);
        Kit.due("check of many", x.check(), Kit.checkOf(many));
    }

    private static void promise6Units() {
        Kit.about("promise 6, units");
        CraftHouse x = new CraftHouse();
        for (int n : new int[] {0, 1, 6, 7, 8, 14, 60, 111, 112}) {
            byte[] data = new byte[n];
            for (int i = 0; i < n; i++) {
                data[i] = (byte) (i * i + n);
            }
            Kit.feed(x, data);
            Kit.due("code(0) of " + n, x.code(0), 10 + 8 * ((n + 6) / 7));
            Kit.dueTape("code(0) of " + n, x, Kit.unit(data));
            x.wipe();
        }
        Kit.feed(x, new byte[113]);
        Kit.due("code(0) of 113", x.code(0), FULL);
        Kit.due("the tape then", x.wipe(), 0);
        x.feed(7, 1);
        Kit.due("code(2)", x.code(2), BAD);
        Kit.due("code(-1)", x.code(-1), BAD);
        Kit.due("the tape then", x.wipe(), 1);
        // the standard's own filled block: seven times 55
        Kit.feed(x, Kit.hex("55555555555555"));
        x.code(0);
        Kit.due("its eighth", x.taped(9), Kit.parityOf(Kit.hex("55555555555555"), 0));
    }

    private static void promise6Blocks() {
        Kit.about("promise 6, blocks");
        byte[] seven = Kit.hex("00 12 FE 80 7F 55 C3");
        byte[] block = Kit.join(seven, Kit.bytes(Kit.parityOf(seven, 0)));
        CraftHouse x = new CraftHouse();
        Kit.feed(x, block);
        Kit.due("code(1)", x.code(1), 7);
        Kit.dueTape("as it is", x, seven);
        Kit.due("code(1) of seven", x.code(1), BAD);
        Kit.due("the tape then", x.wipe(), 7);
        for (int i = 0; i < 64; i++) {
            byte[] turned = block.clone();
            turned[i / 8] ^= (byte) (0x80 >> (i % 8));
            Kit.feed(x, turned);
            Kit.due("code(1), bit " + i, x.code(1), 7);
            Kit.dueTape("bit " + i + " mended", x, seven);
            x.wipe();
        }
        for (int i = 1; i < 63; i++) {
            byte[] turned = block.clone();
            turned[0] ^= (byte) 0x80;
            turned[i / 8] ^= (byte) (0x80 >> (i % 8));
            Kit.feed(x, turned);
            Kit.due("code(1), two bits", x.code(1), NONE);
            Kit.due("the tape then", x.wipe(), 0);
        }
        Kit.feed(x, Kit.hex("C5C5C5C5C5C5C579"));
        Kit.due("code(1) of a unit's end", x.code(1), NONE);
        Kit.feed(x, new byte[9]);
        Kit.due("code(1) of nine", x.code(1), BAD);
        Kit.due("the tape then", x.wipe(), 9);
        Kit.due("code(1) of none", x.code(1), BAD);
    }

    private static void promises7And8() {
        Kit.about("promises 7, 8");
        CraftHouse x = new CraftHouse();
        Kit.inject(x, 0, Kit.hex("A5 01"));
        Kit.inject(x, 1, Kit.hex("80"));
        Kit.due("bits(0)", x.bits(0), 16);
        Kit.due("bits(1)", x.bits(1), 8);
        Kit.due("bits(2)", x.bits(2), BAD);
        Kit.due("bits(3)", x.bits(3), BAD);
        Kit.due("bits(-1)", x.bits(-1), BAD);
        Kit.dueBytes("up", Kit.onLine(x, 0, 0, 2), Kit.hex("A501"));
        Kit.due("bit(1, 0)", x.bit(1, 0), 1);
        Kit.due("bit(1, 1)", x.bit(1, 1), 0);
        Kit.due("bit(0, 16)", x.bit(0, 16), BAD);
        Kit.due("bit(0, -1)", x.bit(0, -1), BAD);
        Kit.due("bit(1, 8)", x.bit(1, 8), BAD);
        Kit.due("bit(2, 0)", x.bit(2, 0), BAD);
        Kit.due("bit(-1, 0)", x.bit(-1, 0), BAD);
    }

    private static void promise9() {
        Kit.about("promise 9");
        CraftHouse x = new CraftHouse();
        byte[] row = new byte[50];
        for (int i = 0; i < row.length; i++) {
            row[i] = (byte) (i * 29 + 3);
        }
        Kit.inject(x, 1, row);
        Kit.due("carry(1, -1)", x.carry(1, -1), BAD);
        Kit.due("carry(2, 1)", x.carry(2, 1), BAD);
        Kit.due("carry(-1, 1)", x.carry(-1, 1), BAD);
        Kit.due("carry(1, 0)", x.carry(1, 0), 0);
        int gone = 0;
        for (int n : new int[] {1, 7, 32, 33, 64, 95, 100}) {
            Kit.due("carry(1, " + n + ")", x.carry(1, n), n);
            gone += n;
            Kit.due("bits left", x.bits(1), 400 - gone);
            for (int i = 0; i < 400 - gone; i++) {
                Kit.due("bit", x.bit(1, i), (row[(gone + i) / 8] >> (7 - (gone + i) % 8)) & 1);
            }
        }
        Kit.due("carry(1, all)", x.carry(1, Integer.MAX_VALUE), 400 - gone);
        Kit.due("bits left", x.bits(1), 0);
        carryUpInParts();
        carryUpWhatIsMended();
    }

    private static void carryUpInParts() {
        CraftHouse x = new CraftHouse();
        byte[] unit = Kit.unit(Kit.frame(true, false, 0, Kit.packetUp(5, 8, 17, 1, new byte[0])));
        Kit.inject(x, 0, unit);
        Kit.due("carry 15", x.carry(0, 15), 15);
        Kit.due("craft(10)", x.craft(10), 0);
        x.carry(0, 1);
        Kit.due("craft(10)", x.craft(10), 1);
        Kit.due("craft(13)", x.craft(13), 1);
        x.carry(0, 63);
        Kit.due("craft(11)", x.craft(11), 0);
        x.carry(0, 1);
        Kit.due("craft(11)", x.craft(11), 7);
        x.carry(0, 64 + 64);
        Kit.due("craft(11)", x.craft(11), 21);
        Kit.due("craft(6)", x.craft(6), 0);
        x.carry(0, 63);
        Kit.due("craft(6)", x.craft(6), 0);
        x.carry(0, 1);
        Kit.due("craft(6)", x.craft(6), 1);
        Kit.due("craft(10)", x.craft(10), 0);
        Kit.due("craft(11)", x.craft(11), 0);
        Kit.due("parameter(16)", x.parameter(16), 1);
    }

    private static void carryUpWhatIsMended() {
        byte[] unit = Kit.unit(Kit.frame(true, false, 0, Kit.packetUp(5, 8, 17, 1, new byte[0])));
        for (int i = 0; i < unit.length * 8; i++) {
            CraftHouse x = new CraftHouse();
            Kit.inject(x, 0, unit);
            x.turn(0, i);
            x.carry(0, 32000);
            boolean inBlocks = i >= 16 && i < 16 + 3 * 64;
            boolean looked = inBlocks && (i - 16) % 64 != 63;
            Kit.due("REQUESTS, bit " + i + " turned", x.craft(6), i < 16 + 3 * 64 || x.craft(10) == 0 ? 1 : 0);
            if (x.craft(10) == 0) {
                Kit.due("mended, bit " + i + " turned", x.craft(12), looked ? 1 : 0);
            }
        }
        CraftHouse x = new CraftHouse();
        Kit.inject(x, 0, unit);
        x.turn(0, 0);
        x.turn(0, 1);
        x.carry(0, 32000);
        Kit.due("two wrong bits in EB 90: units", x.craft(13), 0);
        // 16 blocks at most: the 17th ends the unit even if it could be mended
        CraftHouse y = new CraftHouse();
        byte[] long17 = Kit.unit(new byte[119]);
        Kit.inject(y, 0, long17);
        y.carry(0, 16 + 16 * 64);
        Kit.due("craft(11) with 16 blocks", y.craft(11), 112);
        y.carry(0, 64);
        Kit.due("craft(10) behind the 17th", y.craft(10), 0);
        Kit.due("craft(12)", y.craft(12), 0);
    }

    private static void promise10() {
        Kit.about("promise 10");
        CraftHouse x = new CraftHouse();
        Kit.inject(x, 0, Kit.hex("00 00 00 00 FF"));
        Kit.due("turn(0, 0)", x.turn(0, 0), 1);
        Kit.due("turn(0, 31)", x.turn(0, 31), 1);
        Kit.due("turn(0, 32)", x.turn(0, 32), 0);
        Kit.due("turn(0, 39)", x.turn(0, 39), 0);
        Kit.dueBytes("turned", Kit.onLine(x, 0, 0, 5), Kit.hex("80 00 00 01 7E"));
        Kit.due("turn(0, 0) back", x.turn(0, 0), 0);
        Kit.due("turn(0, 40)", x.turn(0, 40), BAD);
        Kit.due("turn(0, -1)", x.turn(0, -1), BAD);
        Kit.due("turn(1, 0)", x.turn(1, 0), BAD);
        Kit.due("turn(2, 0)", x.turn(2, 0), BAD);
    }

    private static void promise11() {
        Kit.about("promise 11");
        for (int gone : new int[] {0, 1, 30, 31, 32, 33, 63, 64, 79}) {
            CraftHouse x = new CraftHouse();
            byte[] row = Kit.hex("A3 5C 19 F1 0F 81 7E 33 45 96");
            Kit.inject(x, 1, row);
            Kit.due("slip(1, " + gone + ")", x.slip(1, gone), 79);
            for (int i = 0; i < 79; i++) {
                int from = i < gone ? i : i + 1;
                Kit.due("bit " + i, x.bit(1, i), (row[from / 8] >> (7 - from % 8)) & 1);
            }
            Kit.due("bit 79", x.bit(1, 79), BAD);
            Kit.due("slip(1, 79)", x.slip(1, 79), BAD);
            Kit.due("slip(1, -1)", x.slip(1, -1), BAD);
            Kit.due("slip(0, 0)", x.slip(0, 0), BAD);
            Kit.due("slip(2, 0)", x.slip(2, 0), BAD);
            // what comes behind must be right even where bits went
            Kit.inject(x, 1, Kit.hex("5A"));
            Kit.dueBytes("behind", Kit.onLine(x, 1, 79, 1), Kit.hex("5A"));
        }
    }

    private static void promise12() {
        Kit.about("promise 12");
        CraftHouse x = new CraftHouse();
        Kit.inject(x, 0, Kit.hex("FF FF FF FF FF FF FF FF FF"));
        Kit.due("lose(0, 0)", x.lose(0, 0), 72);
        Kit.due("lose(0, 1)", x.lose(0, 1), 71);
        Kit.due("lose(0, 2)", x.lose(0, 2), 69);
        Kit.due("lose(0, 38)", x.lose(0, 38), 31);
        Kit.due("bit(0, 30)", x.bit(0, 30), 1);
        Kit.due("bit(0, 31)", x.bit(0, 31), BAD);
        Kit.inject(x, 0, Kit.hex("00 00"));
        Kit.dueBytes("behind", Kit.onLine(x, 0, 31, 2), Kit.hex("0000"));
        Kit.due("lose(0, -1)", x.lose(0, -1), BAD);
        Kit.due("lose(2, 1)", x.lose(2, 1), BAD);
        Kit.due("lose(-1, 1)", x.lose(-1, 1), BAD);
        Kit.due("lose(0, all)", x.lose(0, Integer.MAX_VALUE), 0);
        Kit.due("lose of none", x.lose(0, 1), 0);
    }

    private static void promise13() {
        Kit.about("promise 13");
        CraftHouse x = new CraftHouse();
        x.feed(0x1234, 2);
        Kit.due("inject(2)", x.inject(2), BAD);
        Kit.due("inject(-1)", x.inject(-1), BAD);
        Kit.due("taped(1)", x.taped(1), 0x34);
        Kit.due("inject(0)", x.inject(0), 16);
        Kit.due("the tape then", x.wipe(), 0);
        Kit.due("inject(0) of none", x.inject(0), 16);
        Kit.due("the other line", x.bits(1), 0);
        fillLine(0, 4000);
        fillLine(1, 8000);
    }

    private static void fillLine(int line, int bytes) {
        CraftHouse x = new CraftHouse();
        int had = 0;
        for (; had + 250 <= bytes; had += 250) {
            Kit.feed(x, new byte[250]);
            Kit.due("inject", x.inject(line), 8 * (had + 250));
        }
        x.feed(0xFF, 1);
        Kit.due("inject when full", x.inject(line), FULL);
        Kit.due("the tape then", x.wipe(), 0);
        Kit.due("bits", x.bits(line), 8 * bytes);
        x.lose(line, 7);
        x.feed(0xFF, 1);
        Kit.due("inject a bit too many", x.inject(line), FULL);
        x.lose(line, 1);
        x.feed(0xFFFF, 2);
        Kit.due("inject without enough room", x.inject(line), FULL);
        x.feed(0xA5, 1);
        Kit.due("inject up to the end", x.inject(line), 8 * bytes);
        Kit.dueBytes("the last", Kit.onLine(x, line, 8 * bytes - 8, 1), Kit.hex("A5"));
        Kit.due("slip of the first", x.slip(line, 0), 8 * bytes - 1);
        Kit.due("bit moved", x.bit(line, 8 * bytes - 2), 1);
        if (line == 0) {
            x.direct(2, 0);
            Kit.due("a unit without room is lost", x.bits(0), 8 * bytes - 1);
        } else {
            x.tick(1);
            Kit.due("a frame without room is lost", x.bits(1), 8 * bytes - 1);
        }
    }
}
