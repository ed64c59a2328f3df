import java.util.Arrays;

/** Boundary cases, a test for each sentence that names one: part 2 UP, promise 29. */
public final class UpBoundsTest extends Trip {
    private UpBoundsTest() {
    }

    public static void main(String[] args) throws Exception {
        Kit.runAll(UpBoundsTest.class);
    }

    private static CraftHouse carried(byte[] row) {
        CraftHouse x = new CraftHouse();
        Kit.inject(x, 0, row);
        x.carry(0, 32000);
        return x;
    }

    private static byte[] turned(byte[] row, int... bits) {
        byte[] other = row.clone();
        for (int bit : bits) {
            other[bit / 8] ^= (byte) (0x80 >> bit % 8);
        }
        return other;
    }

    private static void dueFrames(String when, CraftHouse x, int taken, int bad) {
        due(when + ": TAKEN", x.parameter(16), taken);
        due(when + ": BAD", x.parameter(17), bad);
        due(when + ": looked at, REFUSED or in REQUESTS", x.parameter(18) + x.craft(6), taken);
    }

    // ---- the ear

    private static void marksWithOneOtherBit() {
        Kit.about("2 UP, differ from EB 90 in at most one bit");
        due("none", carried(Kit.hex("EB90")).craft(13), 1);
        for (int i = 0; i < 16; i++) {
            CraftHouse x = carried(turned(Kit.hex("EB90"), i));
            due("bit " + i + ": units begun", x.craft(13), 1);
            due("bit " + i + ": BLOCKS", x.craft(10), 1);
            for (int k = 0; k < i; k++) {
                CraftHouse y = carried(turned(Kit.hex("EB90"), i, k));
                due("bits " + i + ", " + k + ": units begun", y.craft(13), 0);
                due("bits " + i + ", " + k + ": BLOCKS", y.craft(10), 0);
            }
        }
    }

    private static void marksOfSixteenBits() {
        Kit.about("2 UP, the 16 latest bits (since it is SEARCHING), at first");
        CraftHouse x = new CraftHouse();
        Kit.inject(x, 0, Kit.hex("EB90"));
        // 15 bits that would be but one bit off if nothing ahead of them counted as a 0
        x.slip(0, 0);
        x.carry(0, 15);
        due("15 bits", x.craft(13), 0);
        CraftHouse y = new CraftHouse();
        Kit.inject(y, 0, Kit.hex("EB90"));
        y.carry(0, 15);
        due("15 bits", y.craft(13), 0);
        y.carry(0, 1);
        due("16 bits", y.craft(13), 1);
    }

    private static void marksSinceItIsSearching() {
        Kit.about("2 UP, the 16 latest bits (since it is SEARCHING), behind a unit");
        // the last byte of the block that ends the unit is EB: with 90 behind it it is no mark
        CraftHouse x = carried(Kit.hex("EB90 00000000000000EB 90"));
        due("units begun", x.craft(13), 1);
        due("BLOCKS", x.craft(10), 0);
        Kit.inject(x, 0, Kit.hex("EB90"));
        x.carry(0, 15);
        due("units begun", x.craft(13), 1);
        x.carry(0, 1);
        due("units begun", x.craft(13), 2);
        // all but the first bit of EB 90 behind the unit
        CraftHouse y = carried(Kit.hex("EB90 C5C5C5C5C5C5C579"));
        Kit.inject(y, 0, Kit.hex("EB90"));
        y.slip(0, 0);
        y.carry(0, 15);
        due("15 bits behind", y.craft(13), 1);
    }

    private static void marksAnywhere() {
        Kit.about("2 UP, the 16 latest bits, whatever came ahead");
        for (int ahead = 0; ahead < 20; ahead++) {
            CraftHouse x = new CraftHouse();
            Kit.inject(x, 0, new byte[3]);
            x.lose(0, 24 - ahead);
            Kit.inject(x, 0, Kit.unit(Kit.frame(true, false, 0, TEST)));
            x.carry(0, 32000);
            due(ahead + " bits ahead: TAKEN", x.parameter(16), 1);
        }
    }

    private static void blocksOfSixtyFourBits() {
        Kit.about("2 UP, each 64 bits more are a BLOCK");
        CraftHouse x = new CraftHouse();
        Kit.inject(x, 0, Kit.unit(new byte[14]));
        x.carry(0, 16);
        dueEar("a mark", x, 1, 0);
        x.carry(0, 63);
        dueEar("63 bits", x, 1, 0);
        x.carry(0, 1);
        dueEar("64 bits", x, 1, 7);
        x.carry(0, 63);
        dueEar("127 bits", x, 1, 7);
        x.carry(0, 1);
        dueEar("128 bits", x, 1, 14);
        x.carry(0, 63);
        dueEar("191 bits", x, 1, 14);
        x.carry(0, 1);
        dueEar("192 bits", x, 0, 0);
    }

    private static void dueEar(String when, CraftHouse x, int blocks, int bytes) {
        due(when + ": BLOCKS", x.craft(10), blocks);
        due(when + ": bytes of DATA", x.craft(11), bytes);
    }

    private static void blocksMendedAreCounted() {
        Kit.about("promise 29, 12 BLOCKS mended by a bit");
        byte[] unit = Kit.unit(Kit.frame(true, false, 0, TEST));
        for (int i = 16; i < 16 + 3 * 64; i++) {
            CraftHouse x = carried(turned(unit, i));
            boolean lastOfBlock = (i - 16) % 64 == 63;
            due("bit " + i + ": mended", x.craft(12), lastOfBlock ? 0 : 1);
            due("bit " + i + ": TAKEN", x.parameter(16), 1);
        }
        CraftHouse x = carried(turned(unit, 20, 100, 200));
        due("one in each: mended", x.craft(12), 3);
        due("one in each: TAKEN", x.parameter(16), 1);
        due("a bit of the mark: mended", carried(turned(unit, 3)).craft(12), 0);
    }

    private static void seventeenthBlockEndsTheUnit() {
        Kit.about("2 UP, 16 BLOCKS at most; the 17th, which is not mended, ends the unit");
        byte[] data = Kit.filled(Kit.frame(true, false, 0, TEST), 119, 0x55);
        for (int wrong : new int[] {-1, 0, 62, 63}) {
            byte[] unit = Kit.unit(data);
            CraftHouse x = new CraftHouse();
            Kit.inject(x, 0, wrong < 0 ? unit : turned(unit, 16 + 16 * 64 + wrong));
            x.carry(0, 16 + 16 * 64);
            dueEar("16 blocks", x, 1, 112);
            x.carry(0, 63);
            dueEar("and 63 bits", x, 1, 112);
            due("not dealt with yet", x.parameter(16), 0);
            x.carry(0, 1);
            dueEar("17 blocks", x, 0, 0);
            due("mended", x.craft(12), 0);
            dueFrames("17 blocks", x, 1, 0);
        }
    }

    private static void sixteenBlocksAreDealtWith() {
        Kit.about("2 UP, 16 BLOCKS at most: all 112 bytes count");
        // a frame of 67 bytes and one of 45 end with the 112th
        byte[] first = Kit.frame(true, false, 0, Kit.packetUp(1, 0, 6, 2, Kit.join(Kit.hex("0000 20"), new byte[12])));
        byte[] all = Kit.join(first, Kit.frame(true, false, 0, new byte[60]));
        all = Kit.join(all, Kit.frame(true, true, 0, b(0)));
        CraftHouse x = new CraftHouse();
        due("bytes", all.length, 110);
        raise(x, all, b(0x55, 0x55));
        dueFrames("three", x, 2, 0);
        due("B", x.craft(4), 3);
        byte[] even = Kit.join(Kit.frame(true, false, 0, new byte[60]), Kit.frame(true, false, 0, new byte[38]));
        CraftHouse y = new CraftHouse();
        due("bytes", even.length, 112);
        raise(y, even);
        dueFrames("112 bytes", y, 2, 0);
    }

    private static void blockThatEndsTheUnitIsNoData() {
        Kit.about("2 UP, one that can't be mended ends the unit");
        byte[] unit = Kit.unit(Kit.frame(true, false, 0, TEST));
        CraftHouse x = carried(turned(unit, 16 + 128 + 3, 16 + 128 + 9));
        dueEar("the third can't be mended", x, 0, 0);
        dueFrames("the third can't be mended", x, 0, 1);
        CraftHouse y = carried(turned(unit, 16 + 3, 16 + 9));
        dueFrames("the first can't be mended", y, 0, 0);
        due("mended", y.craft(12), 0);
    }

    private static void unitWithoutData() {
        Kit.about("2 UP, as long as it has 7 bytes: none");
        CraftHouse x = carried(Kit.unit(NOTHING));
        due("units begun", x.craft(13), 1);
        dueEar("no DATA", x, 0, 0);
        dueFrames("no DATA", x, 0, 0);
    }

    // ---- frames in the data

    private static void dataOfSevenBytes() {
        Kit.about("2 UP, as long as it has 7 bytes");
        // UNLOCK has 8 bytes: of 14 six are left, which are nothing
        CraftHouse x = new CraftHouse();
        raise(x, Kit.frame(true, true, 0, b(0)), new byte[6]);
        due("B", x.craft(4), 1);
        dueFrames("6 bytes left", x, 0, 0);
        // a frame of 14 bytes, 7 are left: a frame whose length tells 1 byte
        CraftHouse y = new CraftHouse();
        raise(y, Kit.frame(true, false, 0, new byte[7]), new byte[7]);
        dueFrames("7 bytes left", y, 1, 1);
        // a frame of 13 bytes, 8 are left: two of 1 byte, then 6 are left
        CraftHouse z = new CraftHouse();
        raise(z, Kit.frame(true, false, 0, new byte[6]), new byte[8]);
        dueFrames("8 bytes left", z, 1, 2);
    }

    private static void dataThatBeginsWithOnes() {
        Kit.about("2 UP, the first two bits are 0");
        for (int first : new int[] {0x40, 0x80, 0xC0, 0x55, 0xFF}) {
            CraftHouse x = new CraftHouse();
            raise(x, Kit.join(b(first), new byte[13]));
            dueFrames("first byte " + first, x, 0, 0);
            CraftHouse y = new CraftHouse();
            raise(y, Kit.frame(true, true, 0, b(0)), b(first), new byte[12]);
            due("B", y.craft(4), 1);
            dueFrames("behind a frame " + first, y, 0, 0);
        }
        for (int first : new int[] {0x00, 0x3F}) {
            CraftHouse x = new CraftHouse();
            raise(x, Kit.join(b(first), new byte[6]));
            dueFrames("first byte " + first, x, 0, 1);
        }
    }

    private static void dataWithFewerBytes() {
        Kit.about("2 UP, if the DATA has fewer: one BAD, and that is all");
        byte[] twentyOne = Kit.frame(true, false, 0, Kit.filled(TEST, 14, 0));
        due("bytes", twentyOne.length, 21);
        CraftHouse x = new CraftHouse();
        raise(x, twentyOne);
        dueFrames("as many", x, 1, 0);
        for (int tells : new int[] {21, 22, 100, 0x3FF}) {
            byte[] row = Arrays.copyOf(twentyOne, 19);
            row[2] = (byte) (tells >> 8);
            row[3] = (byte) tells;
            CraftHouse y = new CraftHouse();
            raise(y, Kit.checked(row));
            dueFrames("tells " + (tells + 1), y, 0, 1);
        }
        // behind the one that is cut off nothing is looked at
        byte[] cut = Kit.frame(true, false, 0, TEST);
        cut[3] = 60;
        CraftHouse z = new CraftHouse();
        raise(z, cut, new byte[15]);
        dueFrames("zeros behind", z, 0, 1);
    }

    private static void framesOfFewBytes() {
        Kit.about("2 UP, BAD: it has fewer than 8 bytes");
        for (int n = 4; n <= 7; n++) {
            byte[] head = Kit.filled(Kit.join(Kit.two(0x20AB), Kit.two(n - 1)), 5, 0);
            byte[] small = n == 7 ? Kit.checked(head) : Kit.filled(head, n, 0);
            CraftHouse x = new CraftHouse();
            raise(x, small, Kit.frame(true, false, 0, TEST));
            dueFrames(n + " bytes, and a fine one behind", x, 1, 1);
        }
        CraftHouse eight = new CraftHouse();
        raise(eight, Kit.frame(true, true, 0, b(0)));
        due("8 bytes: B", eight.craft(4), 1);
        dueFrames("8 bytes", eight, 0, 0);
        CraftHouse packet = new CraftHouse();
        raise(packet, Kit.frame(true, false, 0, b(9)));
        dueFrames("8 bytes", packet, 1, 0);
    }

    private static void framesOfOneByte() {
        Kit.about("2 UP, as many bytes as its length tells, then the rest likewise");
        CraftHouse x = new CraftHouse();
        raise(x, new byte[112]);
        dueFrames("112 zeros: one BAD each, till 6 are left", x, 0, 106);
        CraftHouse y = new CraftHouse();
        raise(y, new byte[7]);
        dueFrames("7 zeros", y, 0, 1);
    }

    private static void framesBehindABadOne() {
        Kit.about("2 UP, then the rest likewise, behind a BAD one");
        byte[] wrong = Kit.frame(true, false, 0, TEST);
        wrong[19] ^= 1;
        CraftHouse x = new CraftHouse();
        raise(x, wrong, Kit.frame(true, false, 0, TEST), wrong, Kit.frame(false, false, 0, TEST));
        dueFrames("two of four", x, 2, 2);
        due("V", x.craft(0), 1);
    }

    private static void framesOfOneUnitAreAlike() {
        Kit.about("2 UP, then the rest likewise; 6, a DEPTH 0 for what comes of FRAMES, wherever they stand in a unit");
        byte[] function = Kit.packetUp(1, 0, 8, 1, Kit.join(b(3), Kit.four(1)));
        CraftHouse x = new CraftHouse();
        act(x, 19, 1, b(1, 1), TEST);
        raise(x, Kit.frame(true, false, 0, function), Kit.frame(true, false, 0, function), Kit.frame(true, false, 0, function));
        due("REQUESTS", x.craft(6), 3);
        x.tick(1);
        due("their ACTIONS", x.craft(6), 3);
    }

    private static void framesWithOtherFixedBits() {
        Kit.about("2 UP, BAD: the fixed bits are others");
        for (int bit = 4; bit < 22; bit++) {
            byte[] row = Arrays.copyOf(Kit.frame(true, false, 0, TEST), 18);
            row[bit / 8] ^= (byte) (0x80 >> bit % 8);
            CraftHouse x = new CraftHouse();
            raise(x, Kit.checked(row));
            dueFrames("bit " + bit, x, 0, 1);
        }
    }

    private static void framesWithAnotherCheck() {
        Kit.about("2 UP, BAD: CHECK is another one");
        for (int bit = 24; bit < 160; bit++) {
            byte[] row = Kit.frame(true, false, 0, TEST);
            row[bit / 8] ^= (byte) (0x80 >> bit % 8);
            // of a longer or shorter frame other bytes would be CHECK
            if (bit / 8 != 3) {
                CraftHouse x = new CraftHouse();
                raise(x, row);
                dueFrames("bit " + bit, x, 0, 1);
                due("B", x.craft(4), 0);
            }
        }
    }

    private static void controlWithoutBypass() {
        Kit.about("2 UP, BAD: with CONTROL: BYPASS is 0");
        for (byte[] content : new byte[][] {b(0), b(0x82, 0, 5)}) {
            CraftHouse x = new CraftHouse();
            raise(x, Kit.frame(false, true, 0, content));
            dueFrames("CONTROL alone", x, 0, 1);
            dueCraft("CONTROL alone", x, 0, 0, 0, 0, 0);
        }
    }

    private static void controlWithAnotherContent() {
        Kit.about("2 UP, BAD: the CONTENT is neither 00 nor 82 00 and a byte V");
        byte[][] others = {b(1), b(0x80), b(0x82), b(0, 0), b(0x82, 0), b(0x82, 1, 5), b(0x83, 0, 5), b(0, 0, 5),
            b(0x82, 0, 5, 0), b(0, 0, 0, 0), new byte[60]};
        for (byte[] content : others) {
            CraftHouse x = new CraftHouse();
            raise(x, Kit.frame(true, true, 0, content));
            dueFrames(content.length + " bytes", x, 0, 1);
            due("B", x.craft(4), 0);
            due("V", x.craft(0), 0);
        }
        for (int v : new int[] {0, 1, 255}) {
            CraftHouse x = new CraftHouse();
            set(x, v);
            dueFrames("SET", x, 0, 0);
            due("V", x.craft(0), v);
        }
    }

    private static void contentOfSixtyBytes() {
        Kit.about("2 UP, BAD: the CONTENT has more than 60 bytes");
        for (boolean bypass : new boolean[] {false, true}) {
            for (int n : new int[] {59, 60, 61, 62, 105}) {
                CraftHouse x = new CraftHouse();
                raise(x, Kit.frame(bypass, false, 0, new byte[n]));
                dueFrames(n + " bytes", x, n <= 60 ? 1 : 0, n <= 60 ? 0 : 1);
                due("V", x.craft(0), n <= 60 && !bypass ? 1 : 0);
            }
        }
    }

    // ---- the machine

    private static void windowOfTheCraft() {
        Kit.about("2 UP, W (even, 2 .. 254; at first 16)");
        CraftHouse x = new CraftHouse();
        due("at first", x.craft(5), 16);
        for (int v : new int[] {Integer.MIN_VALUE, -2, 0, 1, 3, 15, 253, 255, 256, Integer.MAX_VALUE}) {
            due("direct(11, " + v + ")", x.direct(11, v), BAD);
            due("it changes nothing", x.craft(5), 16);
        }
        for (int v : new int[] {2, 4, 252, 254}) {
            due("direct(11, " + v + ")", x.direct(11, v), 1);
            due("W", x.craft(5), v);
        }
    }

    private static void numbersAroundTheDueOne() {
        Kit.about("2 UP, d = N - V (0 .. 255): 0; 1 .. W/2 - 1; 256 - W/2 .. 255; others");
        for (int w : new int[] {2, 4, 6, 16, 128, 252, 254}) {
            for (int d : new int[] {0, 1, 2, w / 2 - 1, w / 2, w / 2 + 1, 255 - w / 2, 256 - w / 2, 257 - w / 2, 254, 255}) {
                for (int v : new int[] {0, 1, 200, 255}) {
                    int distance = d & 255;
                    CraftHouse x = new CraftHouse();
                    x.direct(11, w);
                    set(x, v);
                    number(x, v + distance & 255);
                    boolean again = distance >= 1 && distance <= w / 2 - 1;
                    boolean nothing = distance >= 256 - w / 2;
                    boolean due = distance == 0;
                    dueCraft("W " + w + ", V " + v + ", d " + distance, x, due ? v + 1 & 255 : v,
                        due || again || nothing ? 0 : 1, 0, again ? 1 : 0, 1, w, due ? 1 : 0);
                }
            }
        }
    }

    private static void numberWraps() {
        Kit.about("1 BYTES, all counts wrap at their width (V)");
        CraftHouse x = new CraftHouse();
        set(x, 254);
        number(x, 254);
        due("V", x.craft(0), 255);
        number(x, 255);
        due("V", x.craft(0), 0);
        number(x, 0);
        due("V", x.craft(0), 1);
        due("TAKEN", x.parameter(16), 3);
    }

    private static void twoBitsWrap() {
        Kit.about("1 BYTES, all counts wrap at their width (B, two bits)");
        CraftHouse x = new CraftHouse();
        for (int i = 1; i <= 9; i++) {
            if (i % 3 == 0) {
                unlock(x);
            } else if (i % 3 == 1) {
                set(x, 0);
            } else {
                bypass(x, TEST);
            }
            due("B after " + i, x.craft(4), i & 3);
        }
        x.tick(1);
        x.carry(1, 64000);
        due("its report", x.came(10), 1);
    }

    private static void roomForTheDueOne() {
        Kit.about("2 UP, if REQUESTS has room: TAKEN, V one more, AGAIN ends; else WAIT and AGAIN");
        CraftHouse x = new CraftHouse();
        for (int i = 0; i < 7; i++) {
            number(x, i);
        }
        number(x, 9);
        dueCraft("seven, and one too far on", x, 7, 0, 0, 1, 0, 16, 7);
        number(x, 7);
        dueCraft("the eighth", x, 8, 0, 0, 0, 0, 16, 8);
        number(x, 8);
        dueCraft("the ninth", x, 8, 0, 1, 1, 0, 16, 8);
        dueFrames("the ninth", x, 8, 0);
        due("with BYPASS lost ones", x.craft(15), 0);
    }

    private static void roomForBypass() {
        Kit.about("2 UP, BYPASS: TAKEN if REQUESTS has room, else lost");
        CraftHouse x = new CraftHouse();
        for (int i = 0; i < 8; i++) {
            bypass(x, TEST);
        }
        dueCraft("eight", x, 0, 0, 0, 0, 0, 16, 8);
        due("lost", x.craft(15), 0);
        bypass(x, TEST);
        dueCraft("the ninth", x, 0, 0, 0, 0, 1, 16, 8);
        due("lost", x.craft(15), 1);
        dueFrames("the ninth", x, 8, 0);
        x.tick(1);
        bypass(x, TEST);
        due("there is room again", x.craft(6), 5);
        due("lost", x.craft(15), 1);
    }

    private static void waitEndsWhenOneLeaves() {
        Kit.about("2 UP, when a REQUEST leaves REQUESTS, WAIT ends");
        CraftHouse x = new CraftHouse();
        for (int i = 0; i < 9; i++) {
            number(x, i);
        }
        number(x, 8);
        dueCraft("under WAIT nothing", x, 8, 0, 1, 1, 0, 16, 8);
        due("packets made", x.craft(14), 0);
        x.tick(1);
        dueCraft("WAIT ends, AGAIN stays", x, 8, 0, 0, 1, 0, 16, 4);
        number(x, 8);
        dueCraft("TAKEN", x, 9, 0, 0, 0, 0, 16, 5);
    }

    private static void unlockEndsAll() {
        Kit.about("2 UP, UNLOCK: LOCKOUT, WAIT, AGAIN end; B one more");
        CraftHouse x = new CraftHouse();
        for (int i = 0; i < 9; i++) {
            number(x, i);
        }
        number(x, 100);
        dueCraft("all three", x, 8, 1, 1, 1, 0, 16, 8);
        unlock(x);
        dueCraft("none", x, 8, 0, 0, 0, 1, 16, 8);
        due("it is no packet: made", x.craft(14), 0);
        due("it is no packet: REFUSED", x.parameter(18), 0);
    }

    private static void setUnderLockout() {
        Kit.about("2 UP, SET: B one more; without LOCKOUT V is that, WAIT, AGAIN end");
        CraftHouse x = new CraftHouse();
        for (int i = 0; i < 9; i++) {
            number(x, i);
        }
        CraftHouse y = new CraftHouse();
        for (int i = 0; i < 9; i++) {
            number(y, i);
        }
        set(x, 255);
        dueCraft("without LOCKOUT", x, 255, 0, 0, 0, 1, 16, 8);
        due("it is no packet: made", x.craft(14), 0);
        number(y, 100);
        set(y, 255);
        dueCraft("under LOCKOUT", y, 8, 1, 1, 1, 1, 16, 8);
        due("it is no packet: REFUSED", y.parameter(18), 0);
    }

    private static void othersUnderLockout() {
        Kit.about("2 UP, others: under LOCKOUT nothing");
        CraftHouse x = new CraftHouse();
        number(x, 100);
        dueCraft("LOCKOUT", x, 0, 1, 0, 0, 0, 16, 0);
        for (int n : new int[] {0, 1, 7, 8, 128, 248, 255}) {
            number(x, n);
            dueCraft("N " + n, x, 0, 1, 0, 0, 0, 16, 0);
        }
        dueFrames("under LOCKOUT", x, 0, 0);
        bypass(x, TEST);
        dueCraft("BYPASS is TAKEN", x, 0, 1, 0, 0, 1, 16, 1);
    }

    private static void reportOfEachBit() {
        Kit.about("2 UP, REPORT: bits: 0 0 LOCKOUT WAIT AGAIN B (two bits) 0; V");
        CraftHouse again = new CraftHouse();
        number(again, 1);
        dueReported("AGAIN", again, 4, 0);
        CraftHouse lockout = new CraftHouse();
        number(lockout, 128);
        dueReported("LOCKOUT", lockout, 16, 0);
        CraftHouse b = new CraftHouse();
        set(b, 255);
        dueReported("B 1, V 255", b, 1, 255);
        set(b, 128);
        dueReported("B 2, V 128", b, 2, 128);
        // WAIT is seen in a report only if no request leaves in the tick: so with none but a full row this is never
        CraftHouse waits = new CraftHouse();
        for (int i = 0; i < 9; i++) {
            number(waits, i);
        }
        dueReported("WAIT ended in the tick", waits, 4, 8);
    }

    private static void dueReported(String when, CraftHouse x, int bits, int v) {
        x.tick(1);
        x.carry(1, 64000);
        due(when + ": bits", x.came(10), bits);
        due(when + ": V", x.came(9), v);
    }

    private static void craftHasBounds() {
        Kit.about("promise 29, BAD");
        CraftHouse x = new CraftHouse();
        for (int what : new int[] {Integer.MIN_VALUE, -3, -2, -1, 16, 17, Integer.MAX_VALUE}) {
            due("craft(" + what + ")", x.craft(what), BAD);
        }
        for (int what = 0; what < 16; what++) {
            due("craft(" + what + ")", x.craft(what), what == 5 ? 16 : 0);
        }
    }

    private static void emptyAndFullRowsOfTheCraft() {
        Kit.about("promise 29, 6 REQUESTS, 7 packets in LIVE, 9 lost ones of LIVE, 14 packets made");
        CraftHouse x = new CraftHouse();
        // a content of one byte is refused: one report each, and none of them leaves before a tick
        for (int i = 0; i < 24; i++) {
            bypass(x, b(1));
        }
        due("LIVE", x.craft(7), 24);
        due("lost", x.craft(9), 0);
        bypass(x, b(1));
        due("LIVE", x.craft(7), 24);
        due("lost", x.craft(9), 1);
        due("made", x.craft(14), 25);
        due("REFUSED", x.parameter(18), 25);
        x.tick(1);
        due("LIVE, three in a frame", x.craft(7), 21);
    }
}
