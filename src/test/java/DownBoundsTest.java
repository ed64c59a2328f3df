import java.util.Arrays;
import java.util.function.Supplier;

/** Boundary cases, a test for each sentence that names one: part 4 DOWN, promises 20, 21, 25. */
public final class DownBoundsTest extends Trip {
    private static final byte[] SMALL = Kit.packetDown(5, 17, 2, 3, NOTHING);

    private DownBoundsTest() {
    }

    public static void main(String[] args) throws Exception {
        Kit.runAll(DownBoundsTest.class);
    }

    // ---- ticks, counts

    private static void tickHasBounds() {
        Kit.about("promise 25, n TICKS (0 .. 200); BAD");
        for (int n : new int[] {Integer.MIN_VALUE, -1, 201, 202, Integer.MAX_VALUE}) {
            CraftHouse x = new CraftHouse();
            due("tick(" + n + ")", x.tick(n), BAD);
            due("it changes nothing", x.bits(1), 0);
            due("it changes nothing", x.parameter(23), 0);
        }
        for (int n : new int[] {0, 1, 199, 200}) {
            CraftHouse x = new CraftHouse();
            due("tick(" + n + ")", x.tick(n), n);
            due("PARAMETER 23", x.parameter(23), n);
            due("bits", x.bits(1), 544 * Math.min(n, 117));
        }
    }

    private static void allWraps() {
        Kit.about("4 DOWN, ALL (a byte: a count of FRAMES, 0 in the first); OWN likewise");
        CraftHouse x = new CraftHouse();
        x.tick(1);
        dueHead("the first", x, 0, 7, 0, 0, 0x7FE);
        x.tick(200);
        x.lose(1, 64000);
        x.tick(54);
        x.lose(1, 64000);
        x.tick(2);
        dueHead("the 256th", x, 0, 7, 255, 255, 0x7FE);
        dueHead("the 257th", x, 1, 7, 0, 0, 0x7FE);
    }

    private static void ownIsOfTheChannel() {
        Kit.about("4 DOWN, OWN (that of the channel's)");
        CraftHouse x = new CraftHouse();
        x.tick(3);
        act(x, 17, 1);
        x.tick(1);
        act(x, 17, 1);
        dueHead("IDLE", x, 2, 7, 2, 2, 0x7FE);
        dueHead("LIVE", x, 3, 0, 3, 0, 0);
        dueHead("IDLE", x, 4, 7, 4, 3, 0x7FE);
        dueHead("LIVE", x, 5, 0, 5, 1, 0);
    }

    private static void ownOfLiveWraps() {
        Kit.about("1 BYTES, all counts wrap at their width (OWN of LIVE); 4 DOWN, one more than the latest one");
        CraftHouse x = new CraftHouse();
        act(x, 3, 1, b(0), Kit.two(1), b(1, 23));
        act(x, 3, 5, b(0));
        x.lose(1, 64000);
        for (int i = 0; i < 3; i++) {
            x.tick(100);
            if (i == 2) {
                dueHead("the 256th of LIVE", x, 55, 0, 257 & 255, 255, 0);
                dueHead("the 257th of LIVE", x, 56, 0, 258 & 255, 0, 0);
            }
            x.carry(1, 64000);
        }
        due("FRAMES", x.came(2), 300);
        due("BAD ones", x.came(3), 0);
        due("GAPS", x.came(4), 0);
        due("MISSING", x.came(7), 0);
        due("ARCHIVED", x.came(5), 300);
    }

    private static void countOfPacketsWraps() {
        Kit.about("1 BYTES, all counts wrap at their width (COUNT, 14 bits)");
        CraftHouse x = new CraftHouse();
        for (int s = 0; s < 6; s++) {
            act(x, 3, 1, b(s), Kit.two(1), b(1, 23));
            act(x, 3, 5, b(s));
        }
        for (int i = 0; i < 13; i++) {
            x.tick(200);
        }
        for (int i = 0; i < 200 && x.craft(14) + 6 <= 16370; i++) {
            x.tick(1);
        }
        for (int s = 0; s < 6; s++) {
            send(x, 0, 3, 6, b(s));
        }
        x.tick(2);
        int made = x.craft(14);
        due("nearly all counts are used", made > 16364 && made < 16384 ? 1 : 0, 1);
        x.lose(1, 64000);
        x.tick(100);
        x.carry(1, 64000);
        int archived = x.came(5);
        due("the latest COUNT", x.archived(0, 4), made - 1);
        int missing = x.came(7);
        for (int i = made; i < 16384 + 3; i++) {
            act(x, 17, 1);
        }
        x.tick(3);
        x.carry(1, 64000);
        due("made", x.craft(14), 16387);
        due("ARCHIVED", x.came(5), archived + 16387 - made);
        due("the latest COUNT", x.archived(0, 4), 2);
        due("the one before", x.archived(1, 4), 1);
        due("the first behind the wrap", x.archived(2, 4), 0);
        due("the last ahead of it", x.archived(3, 4), 16383);
        due("MISSING: none more", x.came(7), missing);
        due("GAPS", x.came(4), 0);
    }

    // ---- what a frame has

    /** A LIVE packet 6, 6 of 18 to 82 bytes, and what it has: MEMORY is 0 then. */
    private static void putPacket(CraftHouse x, int bytes) {
        send(x, 0, 6, 5, Kit.two(0), b(bytes - 18));
    }

    private static byte[] packet(int count, int bytes, int tick) {
        return Kit.packetDown(count, 6, 6, tick, Kit.join(Kit.two(0), b(bytes - 18), new byte[bytes - 18]));
    }

    private static Supplier<CraftHouse> withPackets(int ticks, int... bytes) {
        return () -> {
            CraftHouse x = new CraftHouse();
            for (int each : bytes) {
                putPacket(x, each);
            }
            x.tick(ticks);
            return x;
        };
    }

    private static void dueContent(String when, Supplier<CraftHouse> made, int i, int channel, int first, byte[] content) {
        byte[] frame = frameOf(made, i);
        due(when + ": CHANNEL", frame[1] >> 1 & 7, channel);
        due(when + ": FIRST", (frame[4] & 7) << 8 | frame[5] & 255, first);
        Kit.dueBytes(when, Arrays.copyOfRange(frame, 6, 58), content);
        due(when + ": CHECK", Kit.checkOf(Arrays.copyOf(frame, 62)), (frame[62] & 255) << 8 | frame[63] & 255);
    }

    private static void idlePacketsFillUp() {
        Kit.about("4 DOWN, an IDLE PACKET, as long as what is left, but at least 7");
        for (int bytes = 44; bytes <= 51; bytes++) {
            int left = 52 - bytes;
            byte[] filled = Kit.join(packet(0, bytes, 1), idle(Math.max(left, 7)));
            Supplier<CraftHouse> made = withPackets(2, bytes);
            dueContent(left + " left", made, 0, 0, 0, Arrays.copyOf(filled, 52));
            // what has no room goes on in that channel's next frame, and it is not wanted by itself
            dueContent(left + " left, then", made, 1, 7, 0x7FE, FIVES);
        }
    }

    private static void idlePacketsGoOn() {
        Kit.about("4 DOWN, what of it has no room goes on in that channel's next FRAME");
        for (int bytes = 44; bytes <= 51; bytes++) {
            int over = Math.max(0, 7 - (52 - bytes));
            int size = bytes;
            Supplier<CraftHouse> made = () -> {
                CraftHouse x = withPackets(2, size).get();
                act(x, 17, 1);
                return x;
            };
            byte[] whole = idle(Math.max(52 - bytes, 7));
            byte[] rest = Arrays.copyOfRange(whole, whole.length - over, whole.length);
            byte[] next = Kit.join(rest, Kit.packetDown(1, 17, 2, 3, NOTHING), idle(37 - over));
            dueContent(over + " over", made, 2, 0, over, next);
            CraftHouse x = made.get();
            x.carry(1, 64000);
            due("both came", x.came(5), 2);
            due("none is BAD", x.came(6), 0);
        }
    }

    private static void packetsThatFitExactly() {
        Kit.about("4 DOWN, then the next ones, as far as they go: all 52 bytes");
        Supplier<CraftHouse> one = withPackets(2, 52);
        dueContent("one of 52", one, 0, 0, 0, packet(0, 52, 1));
        dueContent("none left", one, 1, 7, 0x7FE, FIVES);
        Supplier<CraftHouse> two = withPackets(2, 26, 26);
        dueContent("two of 26", two, 0, 0, 0, Kit.join(packet(0, 26, 1), packet(1, 26, 1)));
        dueContent("none left", two, 1, 7, 0x7FE, FIVES);
        Supplier<CraftHouse> more = withPackets(2, 52, 20);
        dueContent("the next frame", more, 1, 0, 0, Kit.join(packet(1, 20, 1), idle(32)));
    }

    private static void packetsLeftOver() {
        Kit.about("4 DOWN, what is left over is left; one that was begun is not wholly sent");
        for (int bytes : new int[] {53, 54, 82}) {
            Supplier<CraftHouse> made = withPackets(3, bytes);
            byte[] whole = packet(0, bytes, 1);
            dueContent(bytes + " bytes", made, 0, 0, 0, Arrays.copyOf(whole, 52));
            byte[] rest = Kit.join(Arrays.copyOfRange(whole, 52, bytes), idle(104 - bytes));
            dueContent(bytes + " bytes, the rest", made, 1, 0, bytes - 52, rest);
            dueContent(bytes + " bytes, then", made, 2, 7, 0x7FE, FIVES);
            CraftHouse x = withPackets(1, bytes).get();
            due("when it is begun it leaves LIVE", x.craft(7), 0);
        }
    }

    private static void firstAtTheLastPlace() {
        Kit.about("4 DOWN, FIRST: the place (0 .. 51) where the first packet begins");
        Supplier<CraftHouse> made = withPackets(3, 21, 82, 30);
        byte[] row = Kit.join(packet(0, 21, 1), packet(1, 82, 1), packet(2, 30, 1));
        dueContent("0", made, 0, 0, 0, Arrays.copyOf(row, 52));
        dueContent("51", made, 1, 0, 51, Arrays.copyOfRange(row, 52, 104));
        dueContent("the rest", made, 2, 0, 29, Kit.join(Arrays.copyOfRange(row, 104, 133), idle(23)));
    }

    private static void firstWhereNoneBegins() {
        Kit.about("4 DOWN, FIRST: 7FF if none does");
        Supplier<CraftHouse> made = withPackets(3, 22, 82, 30);
        byte[] row = Kit.join(packet(0, 22, 1), packet(1, 82, 1), packet(2, 30, 1));
        dueContent("none begins", made, 1, 0, 0x7FF, Arrays.copyOfRange(row, 52, 104));
        dueContent("behind it", made, 2, 0, 0, Kit.join(packet(2, 30, 1), idle(22)));
    }

    private static void idleFrames() {
        Kit.about("4 DOWN, IDLE FRAMES: bytes 55, FIRST 7FE");
        dueContent("IDLE", withPackets(1), 0, 7, 0x7FE, FIVES);
    }

    private static void reportInTheFrame() {
        Kit.about("4 DOWN, the machine's REPORT; CHECK of all that");
        Supplier<CraftHouse> made = () -> {
            CraftHouse x = new CraftHouse();
            set(x, 254);
            number(x, 0);
            x.tick(1);
            return x;
        };
        byte[] frame = frameOf(made, 0);
        Kit.dueBytes("REPORT", Arrays.copyOfRange(frame, 58, 62), Kit.bytes(1, 0, 0x08 | 0x02, 254));
        Kit.dueBytes("CHECK", frame, Kit.checked(Arrays.copyOf(frame, 62)));
    }

    // ---- the channel

    /** STORE 0 has packets 17, 2 (15 bytes each); LIVE and the line are empty. */
    private static CraftHouse stored(int packets) {
        CraftHouse x = new CraftHouse();
        act(x, 15, 3, b(0, 17, 2));
        act(x, 15, 1, b(0));
        for (int i = 0; i < packets; i++) {
            send(x, 0, 17, 1);
            if (i % 4 == 3) {
                x.tick(1);
            }
        }
        x.tick(10);
        x.carry(1, 64000);
        due("STORE", x.store(0, 2), packets);
        return x;
    }

    private static void dueChannels(String when, CraftHouse x, int... channels) {
        for (int i = 0; i < channels.length; i++) {
            due(when + ": frame " + i, partAt(x, i, 0, 2)[1] >> 1 & 7, channels[i]);
        }
    }

    private static byte[] range(int from, int to) {
        return Kit.join(Kit.four(from), Kit.four(to));
    }

    private static void storedAlone() {
        Kit.about("4 DOWN, STORED, if it WANTS, and LIVE doesn't WANT");
        CraftHouse x = stored(10);
        send(x, 0, 15, 9, b(0), range(0, 9999));
        x.tick(5);
        dueChannels("150 bytes", x, 1, 1, 1, 7, 7);
        int came = x.came(5);
        x.carry(1, 64000);
        due("ten came", x.came(5), came + 10);
    }

    private static void storedAndLiveInTurn() {
        Kit.about("4 DOWN, STORED, if it WANTS, and the FRAME before was not STORED; else LIVE, if it WANTS");
        CraftHouse x = stored(10);
        send(x, 0, 15, 9, b(0), range(0, 9999));
        for (int i = 0; i < 3; i++) {
            putPacket(x, 60);
        }
        x.tick(9);
        // STORED has 150 bytes, LIVE 180: three and four frames
        dueChannels("in turn", x, 1, 0, 1, 0, 1, 0, 0, 7, 7);
    }

    private static void storedAgainBehindAnIdleFrame() {
        Kit.about("4 DOWN, the FRAME before was not STORED: nor is it, if an IDLE one came between");
        CraftHouse x = stored(2);
        act(x, 15, 9, b(0), range(0, 9999));
        x.tick(1);
        send(x, 0, 15, 9, b(0), range(0, 9999));
        putPacket(x, 60);
        x.tick(3);
        dueChannels("STORED, IDLE, then both WANT", x, 1, 7, 1, 0, 0);
    }

    private static void storedThatIsBegun() {
        Kit.about("4 DOWN, STORED WANTS: one that was begun is not wholly sent");
        CraftHouse x = stored(4);
        send(x, 0, 15, 9, b(0), range(0, 9999));
        x.tick(1);
        due("PASSED", x.craft(8), 0);
        x.tick(2);
        // 60 bytes: all four are begun in the first frame, 8 bytes are left
        dueChannels("60 bytes", x, 1, 1, 7);
        dueHead("the second", x, 1, 1, 14, 1, 8);
    }

    private static void storedIdleLeftOver() {
        Kit.about("4 DOWN, WANTS: one (but an idle one) that was begun is not wholly sent, of STORED");
        CraftHouse x = new CraftHouse();
        act(x, 15, 3, b(0, 6, 6));
        act(x, 15, 1, b(0));
        putPacket(x, 50);
        x.tick(4);
        x.lose(1, 64000);
        send(x, 0, 15, 9, b(0), range(0, 9999));
        x.tick(3);
        dueChannels("50 bytes, an idle one of 7", x, 1, 7, 7);
    }

    // ---- the ear

    private static void earHasBounds() {
        Kit.about("promise 20, E (0) or F (1) becomes v (0 .. 3); BAD");
        int[][] wrong = {{-1, 0}, {2, 0}, {0, -1}, {0, 4}, {1, -1}, {1, 4}, {Integer.MIN_VALUE, 0}, {Integer.MAX_VALUE, 1},
            {0, Integer.MIN_VALUE}, {1, Integer.MAX_VALUE}};
        CraftHouse x = new CraftHouse();
        x.ear(0, 2);
        x.ear(1, 1);
        for (int[] each : wrong) {
            due("ear(" + each[0] + ", " + each[1] + ")", x.ear(each[0], each[1]), BAD);
        }
        due("E stays", x.ear(0, 3), 2);
        due("F stays", x.ear(1, 3), 1);
        due("E", x.ear(0, 0), 3);
        due("F", x.ear(1, 0), 3);
        due("E", x.ear(0, 1), 0);
        due("F", x.ear(1, 1), 0);
    }

    private static void marksWithOtherBits() {
        Kit.about("4 DOWN, the 32 latest bits differ from the mark in at most E bits (0 .. 3; at first 0)");
        for (int e = -1; e <= 3; e++) {
            for (int others = 0; others <= 4; others++) {
                CraftHouse x = new CraftHouse();
                if (e >= 0) {
                    x.ear(0, e);
                }
                x.tick(1);
                for (int i = 0; i < others; i++) {
                    x.turn(1, i * 10);
                }
                x.carry(1, 32);
                due("E " + e + ", others " + others, x.came(0), others <= Math.max(e, 0) ? 1 : 0);
            }
        }
    }

    private static void marksOfThirtyTwoBits() {
        Kit.about("4 DOWN, the 32 latest bits (since it is SEARCHING)");
        // the mark begins with 0s: less than 32 bits are none, though nothing ahead of them might count as 0s
        for (int gone = 0; gone <= 3; gone++) {
            CraftHouse x = new CraftHouse();
            x.tick(1);
            for (int i = 0; i < gone; i++) {
                x.slip(1, 0);
            }
            x.carry(1, 32 - gone);
            due(32 - gone + " bits", x.came(0), gone == 0 ? 1 : 0);
        }
        CraftHouse y = new CraftHouse();
        y.tick(1);
        y.carry(1, 31);
        due("31 bits", y.came(0), 0);
        y.carry(1, 1);
        due("32 bits", y.came(0), 1);
    }

    private static void framesOfBits() {
        Kit.about("4 DOWN, the 512 bits behind are a FRAME");
        CraftHouse x = new CraftHouse();
        x.tick(2);
        x.carry(1, 32 + 511);
        due("511 bits", x.came(2), 0);
        x.carry(1, 1);
        due("512 bits", x.came(2), 1);
        x.carry(1, 31);
        due("LOCKED", x.came(0), 1);
        x.carry(1, 1 + 511);
        due("511 bits", x.came(2), 1);
        x.carry(1, 1);
        due("512 bits", x.came(2), 2);
        due("BAD ones", x.came(3), 0);
    }

    private static void missesUpToF() {
        Kit.about("4 DOWN, more MISSES than F (0 .. 3; at first 0): SEARCHING, MISSES 0; else the 512 behind are a FRAME");
        for (int f = -1; f <= 3; f++) {
            CraftHouse x = new CraftHouse();
            if (f >= 0) {
                x.ear(1, f);
            }
            int most = Math.max(f, 0);
            x.tick(6);
            for (int i = 1; i < 6; i++) {
                x.turn(1, 544 * i + 4);
            }
            x.carry(1, 544);
            for (int i = 1; i <= most; i++) {
                x.carry(1, 32);
                due("F " + f + ": MISSES", x.came(1), i);
                due("F " + f + ": LOCKED", x.came(0), 1);
                x.carry(1, 512);
                due("F " + f + ": FRAMES", x.came(2), 1 + i);
            }
            x.carry(1, 31);
            due("F " + f + ": LOCKED", x.came(0), 1);
            x.carry(1, 1);
            due("F " + f + ": SEARCHING", x.came(0), 0);
            due("F " + f + ": MISSES", x.came(1), 0);
            x.carry(1, 512);
            due("F " + f + ": FRAMES", x.came(2), 1 + most);
        }
    }

    private static void searchingHasNoMisses() {
        Kit.about("4 DOWN, SEARCHING: without the mark there are no MISSES and no FRAMES, whatever F is");
        for (int f = 0; f <= 3; f++) {
            CraftHouse x = new CraftHouse();
            x.ear(1, f);
            Kit.inject(x, 1, Kit.filled(NOTHING, 80, 255));
            x.tick(1);
            x.carry(1, 640);
            due("F " + f + ": LOCKED", x.came(0), 0);
            due("F " + f + ": MISSES", x.came(1), 0);
            due("F " + f + ": FRAMES", x.came(2), 0);
            x.carry(1, 544);
            due("F " + f + ", then: LOCKED", x.came(0), 1);
            due("F " + f + ", then: FRAMES", x.came(2), 1);
            due("F " + f + ", then: BAD ones", x.came(3), 0);
        }
    }

    private static void framesBehindMissedMarks() {
        Kit.about("4 DOWN, else the 512 behind are a FRAME: one like any other, with its REPORT and its packets");
        CraftHouse x = new CraftHouse();
        x.ear(0, 3);
        x.ear(1, 3);
        send(x, 15, 17, 1);
        x.tick(4);
        for (int i = 1; i < 4; i++) {
            for (int k = 0; k < 4; k++) {
                x.turn(1, 544 * i + 8 * k);
            }
        }
        for (int i = 0; i < 4; i++) {
            x.carry(1, 544);
            due("MISSES", x.came(1), i);
            due("FRAMES", x.came(2), i + 1);
            due("REPORTS", x.came(8), i + 1);
        }
        due("packets", x.came(5), 4);
        CraftHouse y = new CraftHouse();
        y.ear(0, 3);
        y.ear(1, 3);
        down(y, 0, 0, 0, idle(52));
        Kit.inject(y, 1, Kit.filled(NOTHING, 4, 0));
        byte[] frame = Kit.frameDown(0, 0, 2, 0, Kit.join(SMALL, idle(37)), Kit.bytes(1, 0, 0, 0));
        Kit.inject(y, 1, Arrays.copyOfRange(frame, 4, 68));
        y.carry(1, 64000);
        due("MISSES", y.came(1), 1);
        due("GAPS", y.came(4), 1);
        due("packets", y.came(5), 1);
    }

    private static void missesEnd() {
        Kit.about("4 DOWN, behind a FRAME: at most E others: MISSES 0, else one more");
        for (int e = 0; e <= 3; e++) {
            CraftHouse x = new CraftHouse();
            x.ear(0, e);
            x.ear(1, 2);
            x.tick(4);
            for (int i = 0; i <= e; i++) {
                x.turn(1, 544 + 9 * i);
                x.turn(1, 2 * 544 + 9 * i);
                if (i < e) {
                    x.turn(1, 3 * 544 + 9 * i);
                }
            }
            x.carry(1, 544 + 32);
            due("E " + e + ": one too many", x.came(1), 1);
            x.carry(1, 544);
            due("E " + e + ": once more", x.came(1), 2);
            x.carry(1, 544);
            due("E " + e + ": as many as may be", x.came(1), 0);
            due("LOCKED", x.came(0), 1);
        }
    }

    private static void theLatestOnesBehindAMiss() {
        Kit.about("4 DOWN, SEARCHING, MISSES 0 (these 32 are the latest ones then)");
        for (int more = 1; more <= 31; more++) {
            CraftHouse x = new CraftHouse();
            x.tick(1);
            Kit.inject(x, 1, Kit.filled(NOTHING, 4, 255));
            x.lose(1, 32 - more);
            x.tick(1);
            x.carry(1, 544 + 32);
            due(more + " bits late: SEARCHING", x.came(0), 0);
            x.carry(1, more - 1);
            due(more + " bits late: SEARCHING", x.came(0), 0);
            x.carry(1, 1);
            due(more + " bits late: LOCKED", x.came(0), 1);
            x.carry(1, 512);
            due("FRAMES", x.came(2), 2);
            due("BAD ones", x.came(3), 0);
        }
    }

    private static void cameHasBounds() {
        Kit.about("promise 21, BAD; 9, 10 NONE: none yet");
        CraftHouse x = new CraftHouse();
        for (int what : new int[] {Integer.MIN_VALUE, -3, -2, -1, 11, 12, Integer.MAX_VALUE}) {
            due("came(" + what + ")", x.came(what), BAD);
        }
        for (int what = 0; what < 11; what++) {
            due("came(" + what + ")", x.came(what), what < 9 ? 0 : NONE);
        }
        Kit.inject(x, 1, Kit.frameDown(7, 0, 0, 0x7FE, FIVES, Kit.bytes(1, 1, 0, 9)));
        x.carry(1, 64000);
        due("one that is none: REPORTS", x.came(8), 0);
        due("one that is none: V", x.came(9), NONE);
        due("one that is none: its bits", x.came(10), NONE);
        bring(x, 0, 0);
        due("REPORTS", x.came(8), 1);
        due("V", x.came(9), 0);
        due("its bits", x.came(10), 0);
    }

    private static void bitsOfAReport() {
        Kit.about("promise 21, 10 LOCKOUT, WAIT, AGAIN, B as bits 16, 8, 4, 2 and 1");
        for (int bit = 0; bit < 8; bit++) {
            CraftHouse x = new CraftHouse();
            bring(x, 1 << bit, 255);
            boolean fixed = bit == 0 || bit > 5;
            due("bit " + bit + ": REPORTS", x.came(8), fixed ? 0 : 1);
            due("bit " + bit, x.came(10), fixed ? NONE : 1 << bit >> 1);
            due("V", x.came(9), fixed ? NONE : 255);
        }
    }

    private static void reportsThatAreNone() {
        Kit.about("4 DOWN, its REPORT, if its first two bytes and its 0s are so (else it is none)");
        for (int bit = 0; bit < 24; bit++) {
            byte[] report = Kit.bytes(1, 0, 0, 7);
            report[bit / 8] ^= (byte) (0x80 >> bit % 8);
            CraftHouse x = begun(1);
            Kit.inject(x, 1, Kit.frameDown(7, 0, 0, 0x7FE, FIVES, report));
            x.carry(1, 64000);
            boolean such = bit >= 18 && bit < 23;
            due("bit " + bit + ": REPORTS", x.came(8), such ? 1 : 0);
            due("bit " + bit + ": STATE", x.machine(0), such ? 6 : 1);
            due("bit " + bit + ": BAD frames", x.came(3), 0);
        }
        // one that is none leaves the machine as it is, whatever was heard before
        CraftHouse looks = new CraftHouse();
        looks.direct(1, 0);
        Kit.inject(looks, 1, Kit.frameDown(7, 0, 0, 0x7FE, FIVES, Kit.bytes(0, 0, 0, 0)));
        looks.carry(1, 64000);
        due("STATE", looks.machine(0), 4);
        // a frame whose report is none still brings its packets
        CraftHouse x = new CraftHouse();
        Kit.inject(x, 1, Kit.frameDown(0, 0, 0, 0, Kit.join(SMALL, idle(37)), Kit.bytes(2, 0, 0, 7)));
        x.carry(1, 64000);
        due("ARCHIVED", x.came(5), 1);
    }

    private static void framesThatAreBad() {
        Kit.about("4 DOWN, BAD (counted; nothing more), if CHECK, or fixed bits (0 0, 0AB, the 1, 18) are others");
        for (int bit : new int[] {0, 1, 2, 3, 4, 5, 6, 7, 8, 9, 10, 11, 15, 32, 33, 34, 35, 36}) {
            byte[] head = Kit.hex("0AB1 00 00 1800");
            head[bit / 8] ^= (byte) (0x80 >> bit % 8);
            byte[] row = Kit.checked(Kit.join(head, SMALL, idle(37), Kit.bytes(1, 0, 0, 5)));
            dueBad("bit " + bit, row);
        }
        byte[] fine = Kit.checked(Kit.join(Kit.hex("0AB1 00 00 1800"), SMALL, idle(37), Kit.bytes(1, 0, 0, 5)));
        for (int bit = 0; bit < 512; bit += 3) {
            byte[] row = fine.clone();
            row[bit / 8] ^= (byte) (0x80 >> bit % 8);
            dueBad("CHECK, bit " + bit, row);
        }
    }

    private static void dueBad(String when, byte[] row) {
        byte[] noise = Kit.noise();
        for (int i = 0; i < 64; i++) {
            row[i] ^= noise[i];
        }
        CraftHouse x = begun(1);
        Kit.inject(x, 1, Kit.join(Kit.hex("1ACFFC1D"), row));
        x.carry(1, 64000);
        due(when + ": FRAMES", x.came(2), 1);
        due(when + ": BAD ones", x.came(3), 1);
        due(when + ": REPORTS", x.came(8), 0);
        due(when + ": ARCHIVED", x.came(5), 0);
        due(when + ": STATE", x.machine(0), 1);
        due(when + ": LOCKED", x.came(0), 1);
    }

    private static void otherChannels() {
        Kit.about("4 DOWN, of channels 0, 1 (others: nothing more)");
        for (int channel = 0; channel < 8; channel++) {
            CraftHouse x = new CraftHouse();
            down(x, channel, 0, 0, Kit.join(SMALL, idle(37)));
            down(x, channel, 9, 0, Kit.join(SMALL, idle(37)));
            due("channel " + channel + ": ARCHIVED", x.came(5), channel <= 1 ? 2 : 0);
            due("channel " + channel + ": GAPS", x.came(4), channel <= 1 ? 1 : 0);
            due("channel " + channel + ": REPORTS", x.came(8), 2);
            due("channel " + channel + ": BAD ones", x.came(3), 0);
        }
    }

    // ---- packets put together

    private static void ownsOfAChannel() {
        Kit.about("4 DOWN, OWN is not one more than the latest one of the channel (any is, the first time): a GAP");
        int[][] rows = {{0, 1, 0}, {1, 2, 0}, {255, 0, 0}, {254, 255, 0}, {0, 0, 1}, {0, 2, 1}, {0, 255, 1}, {255, 255, 1},
            {255, 1, 1}, {128, 127, 1}};
        for (int[] row : rows) {
            for (int channel = 0; channel < 2; channel++) {
                CraftHouse x = new CraftHouse();
                down(x, channel, row[0], 0x7FF, new byte[52]);
                due("the first, OWN " + row[0] + ": GAPS", x.came(4), 0);
                down(x, channel, row[1], 0x7FF, new byte[52]);
                due("OWN " + row[0] + ", " + row[1] + ": GAPS", x.came(4), row[2]);
                down(x, 1 - channel, 77, 0x7FF, new byte[52]);
                due("the other channel: GAPS", x.came(4), row[2]);
                down(x, channel, row[1] + 1 & 255, 0x7FF, new byte[52]);
                due("then: GAPS", x.came(4), row[2]);
            }
        }
    }

    private static void gapWithAPacketBegun() {
        Kit.about("4 DOWN, a GAP is counted, and what was begun of a packet is gone");
        byte[] big = packet(3, 82, 1);
        for (int channel = 0; channel < 2; channel++) {
            for (int own = 0; own <= 3; own++) {
                CraftHouse x = new CraftHouse();
                down(x, channel, 0, 0, Arrays.copyOf(big, 52));
                byte[] rest = Kit.join(Arrays.copyOfRange(big, 52, 82), SMALL, idle(7));
                down(x, channel, own, 30, rest);
                due("OWN " + own + ": GAPS", x.came(4), own == 1 ? 0 : 1);
                due("OWN " + own + ": ARCHIVED", x.came(5), own == 1 ? 2 : 1);
                due("OWN " + own + ": BAD packets", x.came(6), 0);
                due("OWN " + own + ": the newest", x.archived(0, 5), 15);
            }
        }
    }

    private static void channelsHaveTheirOwnPackets() {
        Kit.about("4 DOWN, is a packet begun, of that channel");
        byte[] live = packet(3, 82, 1);
        byte[] stored = packet(4, 60, 1);
        CraftHouse x = new CraftHouse();
        down(x, 0, 0, 0, Arrays.copyOf(live, 52));
        down(x, 1, 0, 0, Arrays.copyOf(stored, 52));
        down(x, 0, 1, 30, Kit.join(Arrays.copyOfRange(live, 52, 82), idle(22)));
        due("ARCHIVED", x.came(5), 1);
        due("of LIVE", x.archived(0, 0), 0);
        due("COUNT", x.archived(0, 4), 3);
        down(x, 1, 1, 8, Kit.join(Arrays.copyOfRange(stored, 52, 60), idle(44)));
        due("ARCHIVED", x.came(5), 2);
        due("of STORED", x.archived(0, 0), 1);
        due("COUNT", x.archived(0, 4), 4);
        due("BAD packets", x.came(6), 0);
    }

    private static void firstCountsWhenNoneIsBegun() {
        Kit.about("4 DOWN, else from FIRST on (above 51: nothing)");
        for (int first : new int[] {0, 1, 36, 37}) {
            CraftHouse x = new CraftHouse();
            byte[] rest = idle(52 - first - 15);
            down(x, 0, 0, first, Kit.filled(Kit.join(Kit.filled(NOTHING, first, 255), SMALL, rest), 52, 0));
            due("FIRST " + first + ": ARCHIVED", x.came(5), 1);
        }
        for (int first : new int[] {52, 53, 63, 64, 255, 256, 0x400, 0x7FE, 0x7FF}) {
            CraftHouse x = new CraftHouse();
            down(x, 0, 0, first, Kit.join(SMALL, idle(37)));
            due("FIRST " + first + ": ARCHIVED", x.came(5), 0);
            down(x, 0, 1, 0, Kit.join(SMALL, idle(37)));
            due("none was begun: ARCHIVED", x.came(5), 1);
        }
        CraftHouse last = new CraftHouse();
        down(last, 0, 0, 51, Kit.filled(NOTHING, 52, 8));
        down(last, 0, 1, 14, Kit.join(Arrays.copyOfRange(SMALL, 1, 15), idle(38)));
        due("FIRST 51: ARCHIVED", last.came(5), 1);
    }

    private static void begunWhateverFirstIs() {
        Kit.about("4 DOWN, is a packet begun, they are behind it, whatever FIRST is");
        byte[] big = packet(3, 82, 1);
        for (int first : new int[] {0, 1, 30, 51, 52, 0x7FE, 0x7FF}) {
            CraftHouse x = new CraftHouse();
            down(x, 0, 0, 0, Arrays.copyOf(big, 52));
            down(x, 0, 1, first, Kit.join(Arrays.copyOfRange(big, 52, 82), idle(22)));
            due("FIRST " + first + ": ARCHIVED", x.came(5), 1);
        }
        // one that ended with its frame is not begun any more
        CraftHouse x = new CraftHouse();
        down(x, 0, 0, 0, packet(3, 52, 1));
        down(x, 0, 1, 37, Kit.join(Kit.filled(NOTHING, 37, 255), SMALL));
        due("ARCHIVED", x.came(5), 2);
        // one byte is a packet begun
        CraftHouse y = new CraftHouse();
        down(y, 0, 0, 0, Kit.join(idle(51), Arrays.copyOf(SMALL, 1)));
        down(y, 0, 1, 30, Kit.join(Arrays.copyOfRange(SMALL, 1, 15), idle(38)));
        due("ARCHIVED", y.came(5), 1);
    }

    private static void headsOfPacketsInTwoFrames() {
        Kit.about("4 DOWN, packets, one behind the other, as their lengths tell: wherever the frame ends");
        for (int ahead = 38; ahead <= 51; ahead++) {
            CraftHouse x = new CraftHouse();
            byte[] row = Kit.join(idle(ahead), SMALL, idle(104 - ahead - 15));
            down(x, 0, 0, 0, Arrays.copyOf(row, 52));
            down(x, 0, 1, ahead + 15 - 52, Arrays.copyOfRange(row, 52, 104));
            due("begun at " + ahead + ": ARCHIVED", x.came(5), 1);
            due("begun at " + ahead + ": BAD packets", x.came(6), 0);
        }
    }

    private static void leastPackets() {
        Kit.about("4 DOWN, packets as their lengths tell: 7 bytes at least");
        CraftHouse x = new CraftHouse();
        down(x, 0, 0, 0, Kit.join(idle(7), idle(7), idle(7), Kit.hex("080CC000000000"), SMALL, idle(9)));
        due("ARCHIVED", x.came(5), 1);
        due("BAD packets, one of 7 bytes", x.came(6), 1);
    }

    private static void longPackets() {
        Kit.about("4 DOWN, more than 200 bytes in all: what is left of the FRAME is nothing, none is begun");
        for (int n : new int[] {199, 200, 201, 202, 263, 65542}) {
            CraftHouse x = new CraftHouse();
            byte[] head = Kit.join(Kit.hex("080CC000"), Kit.two(n - 7));
            // behind the head a whole packet stands: as a part of the long one it is nothing
            down(x, 0, 0, 0, Kit.join(head, SMALL, idle(31)));
            due(n + " bytes: ARCHIVED", x.came(5), 0);
            down(x, 0, 1, 0, Kit.join(SMALL, SMALL, idle(22)));
            due(n + " bytes, then: ARCHIVED", x.came(5), n <= 200 ? 0 : 2);
            due(n + " bytes: BAD packets", x.came(6), 0);
            if (n <= 200) {
                down(x, 0, 2, 0x7FF, new byte[52]);
                down(x, 0, 3, 0, Kit.join(new byte[n - 156], idle(208 - n)));
                due(n + " bytes, whole: BAD packets", x.came(6), 1);
            }
        }
    }

    private static void longPacketsInTwoFrames() {
        Kit.about("4 DOWN, more than 200 bytes in all: its length is in the next FRAME");
        // of the second length the first byte alone tells that it is too long; but both are waited for
        for (int length : new int[] {201 - 7, 0x0105}) {
            for (int ahead = 46; ahead <= 51; ahead++) {
                CraftHouse x = new CraftHouse();
                byte[] head = Kit.join(Kit.hex("080CC000"), Kit.two(length));
                byte[] row = Kit.join(idle(ahead), head, SMALL, idle(104 - ahead - 21));
                down(x, 0, 0, 0, Arrays.copyOf(row, 52));
                // FIRST points at the packet behind the head; but where the head ends here, what is left is nothing
                down(x, 0, 1, ahead + 6 - 52, Arrays.copyOfRange(row, 52, 104));
                int whole = ahead == 46 ? 1 : 0;
                due("at " + ahead + ": ARCHIVED", x.came(5), whole);
                down(x, 0, 2, 37, Kit.join(Kit.filled(NOTHING, 37, 255), SMALL));
                due("at " + ahead + ", then: ARCHIVED", x.came(5), whole + 1);
            }
        }
    }
}
