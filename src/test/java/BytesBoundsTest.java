import java.util.Arrays;
import java.util.Random;

/** Boundary cases, a test for each sentence that names one: part 1 BYTES, promises 1 to 13. */
public final class BytesBoundsTest extends Trip {
    private static final int[] NO_LINES = {Integer.MIN_VALUE, -2, -1, 2, 3, Integer.MAX_VALUE};

    private BytesBoundsTest() {
    }

    public static void main(String[] args) throws Exception {
        Kit.runAll(BytesBoundsTest.class);
    }

    private static byte[] row(int n) {
        byte[] row = new byte[n];
        new Random(n).nextBytes(row);
        return row;
    }

    private static CraftHouse fed(byte[] row) {
        CraftHouse x = new CraftHouse();
        Kit.feed(x, row);
        return x;
    }

    /** A line with a number of bits, the last ones 1; units and frames fill it, as an object has few calls. */
    private static CraftHouse filled(int line, int bits) {
        CraftHouse x = new CraftHouse();
        int unit = 272;
        for (int had = 0; line == 0 && had + unit + 16 <= bits; had += unit) {
            x.request(17, 1, 0, true);
        }
        if (line == 1 && bits > 16) {
            x.tick((bits - 16) / 544);
        }
        int bytes = (bits - x.bits(line) + 7) / 8;
        Kit.inject(x, line, Kit.filled(NOTHING, bytes, 255));
        x.lose(line, x.bits(line) - bits);
        due("bits", x.bits(line), bits);
        return x;
    }

    // ---- the tape

    private static void feedTakesOneToFour() {
        Kit.about("promise 2, BAD: n is not 1 .. 4");
        for (int n : new int[] {Integer.MIN_VALUE, -1, 0, 5, 6, 256, Integer.MAX_VALUE}) {
            CraftHouse x = fed(b(9));
            due("feed(7, " + n + ")", x.feed(7, n), BAD);
            due("it changes nothing", x.wipe(), 1);
        }
        for (int n = 1; n <= 4; n++) {
            CraftHouse x = new CraftHouse();
            due("feed(7, " + n + ")", x.feed(7, n), n);
        }
    }

    private static void feedTakesTheLowestBytes() {
        Kit.about("promise 2, the n lowest bytes of v, the highest first");
        for (int v : new int[] {0x81223344, 0x7F80FF01, -1, Integer.MIN_VALUE}) {
            for (int n = 1; n <= 4; n++) {
                CraftHouse x = fed(b(0xEE));
                x.feed(v, n);
                Kit.dueTape("n " + n, x, Kit.join(b(0xEE), Arrays.copyOfRange(Kit.four(v), 4 - n, 4)));
            }
        }
    }

    private static void feedIsFull() {
        Kit.about("promise 2, FULL; THE TAPE (256 bytes)");
        for (int had = 252; had <= 256; had++) {
            for (int n = 1; n <= 4; n++) {
                CraftHouse x = fed(row(had));
                boolean fits = had + n <= 256;
                due("feed of " + n + " at " + had, x.feed(0x01020304, n), fits ? had + n : FULL);
                due("the last", x.taped(had - 1), row(had)[had - 1] & 255);
                due("how many then", x.wipe(), fits ? had + n : had);
            }
        }
    }

    private static void feedIsBadAheadOfFull() {
        Kit.about("BAD is looked at first (feed)");
        CraftHouse x = fed(row(256));
        due("feed(0, 0)", x.feed(0, 0), BAD);
        due("feed(0, 5)", x.feed(0, 5), BAD);
    }

    private static void tapedHasBounds() {
        Kit.about("promise 3, BAD");
        for (int n : new int[] {0, 1, 255, 256}) {
            CraftHouse x = fed(row(n));
            for (int i : new int[] {Integer.MIN_VALUE, -1, n, n + 1, 256, 257, Integer.MAX_VALUE}) {
                if (i < 0 || i >= n) {
                    due("taped(" + i + ") of " + n, x.taped(i), BAD);
                }
            }
            if (n > 0) {
                due("the first", x.taped(0), row(n)[0] & 255);
                due("the last", x.taped(n - 1), row(n)[n - 1] & 255);
            }
        }
    }

    private static void wipeOfNoneAndOfAll() {
        Kit.about("promise 4, empty, full");
        for (int n : new int[] {0, 1, 256}) {
            CraftHouse x = fed(row(n));
            due("wipe", x.wipe(), n);
            due("taped(0)", x.taped(0), BAD);
            due("wipe", x.wipe(), 0);
            due("feed", x.feed(1, 4), 4);
        }
    }

    private static void checkOfNoneAndOfAll() {
        Kit.about("promise 5, c is FFFF; THE TAPE stays");
        for (int n : new int[] {0, 1, 2, 255, 256}) {
            CraftHouse x = fed(row(n));
            due("check of " + n, x.check(), n == 0 ? 0xFFFF : Kit.checkOf(row(n)));
            due("how many", x.wipe(), n);
        }
    }

    // ---- codes

    private static void codeKnowsTwo() {
        Kit.about("promise 6, BAD: another what");
        for (int what : new int[] {Integer.MIN_VALUE, -1, 2, 3, Integer.MAX_VALUE}) {
            CraftHouse x = fed(row(8));
            due("code(" + what + ")", x.code(what), BAD);
            Kit.dueTape("it changes nothing", x, row(8));
        }
    }

    private static void codeOfNoData() {
        Kit.about("promise 6, a UNIT of no DATA");
        CraftHouse x = new CraftHouse();
        due("code(0)", x.code(0), 10);
        Kit.dueTape("code(0)", x, Kit.hex("EB90 C5C5C5C5C5C5C579"));
    }

    private static void codeFillsTheLastBlock() {
        Kit.about("2 UP, BLOCKS of its DATA (filled with 55)");
        for (int n : new int[] {1, 6, 7, 8, 13, 14, 15, 105, 106, 111, 112}) {
            CraftHouse x = fed(row(n));
            due("code(0) of " + n, x.code(0), 2 + 8 * ((n + 6) / 7) + 8);
            Kit.dueTape("code(0) of " + n, x, Kit.unit(row(n)));
        }
    }

    private static void codeHasNoRoom() {
        Kit.about("promise 6, FULL: more than 112 bytes, it is empty then");
        due("code(0) of 112", fed(row(112)).code(0), 138);
        for (int n : new int[] {113, 114, 119, 120, 255, 256}) {
            CraftHouse x = fed(row(n));
            due("code(0) of " + n, x.code(0), FULL);
            due("it is empty then", x.wipe(), 0);
        }
    }

    private static void codeMendsEightBytes() {
        Kit.about("promise 6, BAD: it has not 8");
        for (int n : new int[] {0, 1, 7, 9, 16, 113, 256}) {
            CraftHouse x = fed(row(n));
            due("code(1) of " + n, x.code(1), BAD);
            Kit.dueTape("it changes nothing", x, row(n));
        }
    }

    private static byte[] block(byte[] seven) {
        return Kit.join(seven, b(Kit.parityOf(seven, 0)));
    }

    private static byte[] turned(byte[] row, int... bits) {
        byte[] other = row.clone();
        for (int bit : bits) {
            other[bit / 8] ^= (byte) (0x80 >> bit % 8);
        }
        return other;
    }

    private static void blockAsItIs() {
        Kit.about("1 BYTES, the REMAINDER is 0: as it is");
        for (byte[] seven : new byte[][] {new byte[7], Kit.filled(NOTHING, 7, 255), row(7), Kit.hex("80000000000001")}) {
            CraftHouse x = fed(block(seven));
            due("code(1)", x.code(1), 7);
            Kit.dueTape("code(1)", x, seven);
        }
    }

    private static void blockWithoutItsLastBit() {
        Kit.about("1 BYTES, its last bit is not looked at");
        CraftHouse x = fed(turned(block(row(7)), 63));
        due("code(1)", x.code(1), 7);
        Kit.dueTape("the last bit", x, row(7));
        CraftHouse y = fed(turned(block(row(7)), 5, 63));
        due("code(1)", y.code(1), 7);
        Kit.dueTape("the last bit and another", y, row(7));
        CraftHouse z = fed(turned(block(row(7)), 5, 6, 63));
        due("code(1)", z.code(1), NONE);
    }

    private static void blockMendedByABit() {
        Kit.about("1 BYTES, the one of the 63 whose turning makes it 0 is turned");
        for (int i = 0; i < 63; i++) {
            CraftHouse x = fed(turned(block(row(7)), i));
            due("code(1), bit " + i, x.code(1), 7);
            Kit.dueTape("bit " + i, x, row(7));
        }
    }

    private static void blockThatCantBeMended() {
        Kit.about("promise 6, NONE: it can't be, THE TAPE is empty");
        for (int i = 0; i < 62; i++) {
            for (int k : new int[] {i + 1, 62}) {
                if (k != i) {
                    CraftHouse x = fed(turned(block(row(7)), i, k));
                    due("code(1), bits " + i + ", " + k, x.code(1), NONE);
                    due("it is empty then", x.wipe(), 0);
                }
            }
        }
        due("the end of a UNIT", fed(Kit.hex("C5C5C5C5C5C5C579")).code(1), NONE);
    }

    // ---- lines

    private static void linesAreTwo() {
        Kit.about("promises 7 to 13, BAD: no such LINE");
        for (int line : NO_LINES) {
            CraftHouse x = new CraftHouse();
            Kit.inject(x, 0, b(0xA5));
            Kit.inject(x, 1, b(0xA5));
            x.feed(7, 1);
            due("bits", x.bits(line), BAD);
            due("bit", x.bit(line, 0), BAD);
            due("carry", x.carry(line, 1), BAD);
            due("turn", x.turn(line, 0), BAD);
            due("slip", x.slip(line, 0), BAD);
            due("lose", x.lose(line, 1), BAD);
            due("inject", x.inject(line), BAD);
            due("THE TAPE stays", x.taped(0), 7);
            Kit.dueBytes("line 0", Kit.onLine(x, 0, 0, 1), b(0xA5));
            Kit.dueBytes("line 1", Kit.onLine(x, 1, 0, 1), b(0xA5));
            due("bits(0)", x.bits(0), 8);
            due("bits(1)", x.bits(1), 8);
        }
    }

    private static void bitsOfBothLines() {
        Kit.about("promise 7, empty, full, each LINE by itself");
        CraftHouse x = new CraftHouse();
        due("bits(0)", x.bits(0), 0);
        due("bits(1)", x.bits(1), 0);
        due("bits(1) beside a full one", filled(0, 32000).bits(1), 0);
        due("bits(0) beside a full one", filled(1, 64000).bits(0), 0);
    }

    private static void bitHasBounds() {
        Kit.about("promise 8, BAD");
        for (int line = 0; line < 2; line++) {
            due("bit of none", new CraftHouse().bit(line, 0), BAD);
            int most = line == 0 ? 32000 : 64000;
            CraftHouse x = filled(line, most);
            due("the last", x.bit(line, most - 1), 1);
            for (int i : new int[] {Integer.MIN_VALUE, -1, most, most + 1, Integer.MAX_VALUE}) {
                due("bit(" + line + ", " + i + ")", x.bit(line, i), BAD);
            }
            x.lose(line, 1);
            due("one less", x.bit(line, most - 1), BAD);
            due("the last", x.bit(line, most - 2), 1);
        }
    }

    private static void carryOfFewOrAll() {
        Kit.about("promise 9, the first n bits (or all)");
        for (int line = 0; line < 2; line++) {
            for (int n : new int[] {0, 1, 15, 16, 17, Integer.MAX_VALUE}) {
                CraftHouse x = new CraftHouse();
                Kit.inject(x, line, Kit.hex("8001"));
                due("carry(" + line + ", " + n + ")", x.carry(line, n), Math.min(n, 16));
                due("bits then", x.bits(line), 16 - Math.min(n, 16));
                if (n == 1 || n == 15) {
                    due("the first then", x.bit(line, 0), n == 15 ? 1 : 0);
                    due("the last then", x.bit(line, 15 - n), 1);
                }
            }
            due("carry of none", new CraftHouse().carry(line, 5), 0);
        }
    }

    private static void carryOfLessThanNone() {
        Kit.about("promise 9, BAD: also n below 0");
        for (int line = 0; line < 2; line++) {
            for (int n : new int[] {-1, -2, Integer.MIN_VALUE}) {
                CraftHouse x = filled(line, 8);
                due("carry(" + line + ", " + n + ")", x.carry(line, n), BAD);
                due("it changes nothing", x.bits(line), 8);
                due("of none", new CraftHouse().carry(line, n), BAD);
            }
        }
    }

    private static void carryOfAFullLine() {
        Kit.about("promise 9, all bits of a full LINE");
        due("up", filled(0, 32000).carry(0, 32000), 32000);
        due("down", filled(1, 64000).carry(1, 64000), 64000);
        CraftHouse x = filled(1, 64000);
        due("all but one", x.carry(1, 63999), 63999);
        due("bits", x.bits(1), 1);
        Kit.inject(x, 1, b(0x81));
        Kit.dueBytes("behind it", Kit.onLine(x, 1, 0, 1), b(0xC0));
        due("bit 8", x.bit(1, 8), 1);
    }

    private static void turnHasBounds() {
        Kit.about("promise 10, BAD");
        for (int line = 0; line < 2; line++) {
            due("turn of none", new CraftHouse().turn(line, 0), BAD);
            CraftHouse x = new CraftHouse();
            Kit.inject(x, line, Kit.hex("00000000FF"));
            for (int i : new int[] {Integer.MIN_VALUE, -1, 40, 41, Integer.MAX_VALUE}) {
                due("turn(" + line + ", " + i + ")", x.turn(line, i), BAD);
            }
            Kit.dueBytes("it changes nothing", Kit.onLine(x, line, 0, 5), Kit.hex("00000000FF"));
            due("the first", x.turn(line, 0), 1);
            due("the last", x.turn(line, 39), 0);
            Kit.dueBytes("turned", Kit.onLine(x, line, 0, 5), Kit.hex("80000000FE"));
            due("back", x.turn(line, 39), 1);
        }
    }

    private static void slipHasBounds() {
        Kit.about("promise 11, BAD");
        for (int line = 0; line < 2; line++) {
            due("slip of none", new CraftHouse().slip(line, 0), BAD);
            CraftHouse x = new CraftHouse();
            Kit.inject(x, line, Kit.hex("A55A"));
            for (int i : new int[] {Integer.MIN_VALUE, -1, 16, 17, Integer.MAX_VALUE}) {
                due("slip(" + line + ", " + i + ")", x.slip(line, i), BAD);
            }
            due("it changes nothing", x.bits(line), 16);
            Kit.dueBytes("it changes nothing", Kit.onLine(x, line, 0, 2), Kit.hex("A55A"));
            due("the last", x.slip(line, 15), 15);
            due("the first", x.slip(line, 0), 14);
            due("beyond", x.slip(line, 14), BAD);
        }
    }

    private static void slipOfTheOnlyBit() {
        Kit.about("promise 11, the only bit goes");
        CraftHouse x = filled(0, 1);
        due("slip", x.slip(0, 0), 0);
        due("bit", x.bit(0, 0), BAD);
        due("once more", x.slip(0, 0), BAD);
        Kit.inject(x, 0, b(0x55));
        Kit.dueBytes("what comes then", Kit.onLine(x, 0, 0, 1), b(0x55));
    }

    private static void slipClosesUpOverWords() {
        Kit.about("promise 11, those behind close up");
        for (int bytes = 12; bytes <= 24; bytes++) {
            byte[] row = row(bytes);
            for (int gone = 0; gone < 8 * bytes; gone += 1 + bytes % 3) {
                CraftHouse x = new CraftHouse();
                Kit.inject(x, 1, row);
                due("slip(1, " + gone + ")", x.slip(1, gone), 8 * bytes - 1);
                dueBits(x, 1, 0, gone, row, 0);
                dueBits(x, 1, gone, 8 * bytes - 1, row, 1);
            }
        }
    }

    /** Bits from .. to - 1 of a line are those of a row, some further on. */
    private static void dueBits(CraftHouse x, int line, int from, int to, byte[] row, int further) {
        for (int i = from; i < to; i++) {
            int k = i + further;
            due("bit " + i, x.bit(line, i), row[k / 8] >> 7 - k % 8 & 1);
        }
    }

    private static void carryClosesUp() {
        Kit.about("promise 9, the first n bits go, those behind close up, and nothing is left behind them");
        for (int line = 0; line < 2; line++) {
            for (int gone = 1; gone < 136; gone += 3) {
                CraftHouse x = new CraftHouse();
                byte[] row = row(17);
                Kit.inject(x, line, row);
                due("carry(" + line + ", " + gone + ")", x.carry(line, gone), gone);
                dueBits(x, line, 0, 136 - gone, row, gone);
                Kit.inject(x, line, new byte[20]);
                dueBits(x, line, 136 - gone, 296 - gone, new byte[20], gone - 136);
            }
        }
    }

    private static void loseOfFewOrAll() {
        Kit.about("promise 12, the last n bits (or all)");
        for (int line = 0; line < 2; line++) {
            for (int n : new int[] {0, 1, 7, 8, 9, Integer.MAX_VALUE}) {
                CraftHouse x = filled(line, 8);
                due("lose(" + line + ", " + n + ")", x.lose(line, n), 8 - Math.min(n, 8));
                due("bits", x.bits(line), 8 - Math.min(n, 8));
                due("the last but it", x.bit(line, 8 - Math.min(n, 8)), BAD);
            }
            due("lose of none", new CraftHouse().lose(line, 3), 0);
            due("lose of all", filled(line, 64).lose(line, 64), 0);
        }
    }

    private static void loseOfLessThanNone() {
        Kit.about("promise 12, BAD: also n below 0");
        for (int line = 0; line < 2; line++) {
            for (int n : new int[] {-1, -8, Integer.MIN_VALUE}) {
                CraftHouse x = filled(line, 8);
                due("lose(" + line + ", " + n + ")", x.lose(line, n), BAD);
                due("it changes nothing", x.bits(line), 8);
            }
        }
    }

    private static void loseLeavesNothingBehind() {
        Kit.about("promise 12, what comes behind the lost ones");
        for (int kept = 0; kept < 70; kept++) {
            CraftHouse x = filled(1, 72);
            x.lose(1, 72 - kept);
            Kit.inject(x, 1, new byte[9]);
            for (int i = 0; i < kept + 72; i++) {
                due("kept " + kept + ", bit " + i, x.bit(1, i), i < kept ? 1 : 0);
            }
        }
    }

    private static void injectOfNone() {
        Kit.about("promise 13, an empty TAPE");
        for (int line = 0; line < 2; line++) {
            due("inject", new CraftHouse().inject(line), 0);
            int most = line == 0 ? 32000 : 64000;
            due("inject at the end", filled(line, most).inject(line), most);
        }
    }

    private static void injectUpToTheEnd() {
        Kit.about("promise 13, FULL; at most 32000 and 64000");
        for (int line = 0; line < 2; line++) {
            int most = line == 0 ? 32000 : 64000;
            for (int room : new int[] {0, 1, 7, 8, 9, 15, 16, 2047, 2048}) {
                for (int bytes : new int[] {1, 2, 256}) {
                    CraftHouse x = filled(line, most - room);
                    Kit.feed(x, row(bytes));
                    boolean fits = 8 * bytes <= room;
                    due("room " + room + ", bytes " + bytes, x.inject(line), fits ? most - room + 8 * bytes : FULL);
                    due("bits", x.bits(line), fits ? most - room + 8 * bytes : most - room);
                    due("THE TAPE is empty then", x.wipe(), 0);
                    if (fits) {
                        int n = Math.min(bytes, 20);
                        Kit.dueBytes("its last", Kit.onLine(x, line, most - room + 8 * (bytes - n), n),
                            Arrays.copyOfRange(row(bytes), bytes - n, bytes));
                    }
                }
            }
        }
    }

    // ---- units and frames without room

    private static void unitsWithoutRoom() {
        Kit.about("1 BYTES, what would have no room is lost wholly (a unit)");
        int unit = 8 * (2 + 3 * 8 + 8);
        for (int room : new int[] {0, unit - 1, unit, unit + 1, 2 * unit - 1, 2 * unit}) {
            CraftHouse x = filled(0, 32000 - room);
            int next = x.requests();
            x.direct(0, 0);
            due("request", x.request(17, 1, 0, false), next);
            due("with BYPASS", x.request(17, 1, 0, true), next + 1);
            due("bits, room " + room, x.bits(0), 32000 - room + room / unit * unit);
            due("SENT all the same", x.machine(7), 1);
            due("SENT all the same", x.became(next, 0), 2);
            due("SENT all the same", x.became(next + 1, 0), 2);
        }
    }

    private static void controlWithoutRoom() {
        Kit.about("1 BYTES, what would have no room is lost wholly (a control FRAME)");
        int unlock = 8 * (2 + 2 * 8 + 8);
        for (int room : new int[] {unlock - 1, unlock}) {
            CraftHouse x = filled(0, 32000 - room);
            due("direct(2)", x.direct(2, 0), 1);
            due("bits", x.bits(0), room == unlock ? 32000 : 32000 - room);
            due("STATE", x.machine(0), 5);
        }
    }

    private static void framesWithoutRoom() {
        Kit.about("1 BYTES, what would have no room is lost wholly (a frame)");
        for (int room : new int[] {0, 1, 543, 544, 545, 1087, 1088}) {
            CraftHouse x = filled(1, 64000 - room);
            int sent = x.tick(0);
            due("tick", x.tick(3), sent + 3);
            due("bits, room " + room, x.bits(1), 64000 - room + room / 544 * 544);
            x.lose(1, 64000);
            x.tick(1);
            dueHead("lost ones are counted", x, 0, 7, sent + 3, sent + 3, 0x7FE);
        }
    }

    private static void noiseBeginsWithOnes() {
        Kit.about("1 BYTES, NOISE BITS: the first eight are 1");
        CraftHouse[] both = {new CraftHouse(), new CraftHouse()};
        both[0].tick(1);
        both[1].tick(1);
        byte[] bare = Kit.checked(Kit.join(Kit.hex("0ABF 00 00 1FFE"), FIVES, Kit.hex("01000000")));
        int[] noise = new int[512];
        for (int k = 0; k < 512; k++) {
            noise[k] = k < 8 ? 1 : noise[k - 1] ^ noise[k - 3] ^ noise[k - 5] ^ noise[k - 8];
            due("bit " + k, both[k / 256].bit(1, 32 + k), noise[k] ^ (bare[k / 8] >> 7 - k % 8 & 1));
        }
        Kit.dueBytes("the mark has none", Kit.onLine(both[0], 1, 0, 4), Kit.hex("1ACFFC1D"));
    }
}
