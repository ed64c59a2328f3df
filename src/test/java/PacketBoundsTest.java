import java.util.Arrays;

/** Boundary cases, a test for each sentence that names one: part 5 PACKETS. */
public final class PacketBoundsTest extends Trip {
    private PacketBoundsTest() {
    }

    public static void main(String[] args) throws Exception {
        Kit.runAll(PacketBoundsTest.class);
    }

    /** A packet is TAKEN: the code with which it is refused, or none, with 0. */
    private static void dueCode(String when, int code, byte[] packet) {
        CraftHouse x = new CraftHouse();
        bypass(x, packet);
        due(when + ": TAKEN", x.parameter(16), 1);
        due(when + ": REFUSED", x.parameter(18), code == 0 ? 0 : 1);
        due(when + ": REQUESTS", x.craft(6), code == 0 ? 1 : 0);
        if (code != 0) {
            x.tick(1);
            x.carry(1, 64000);
            byte[] head = Kit.filled(packet, 4, 0);
            dueReport(when, x, 1, 2, Kit.join(Arrays.copyOfRange(head, 2, 4), b(code)));
            due(when + ": nothing else is made", x.craft(14), 1);
        }
    }

    private static byte[] wrongCheck(byte[] packet) {
        byte[] other = packet.clone();
        other[packet.length - 1] ^= 1;
        return other;
    }

    /** A packet whose length tells another number of bytes; its CHECK is right. */
    private static byte[] tells(byte[] packet, int bytes) {
        byte[] row = Arrays.copyOf(packet, packet.length - 2);
        row[4] = (byte) (bytes - 7 >> 8);
        row[5] = (byte) (bytes - 7);
        return Kit.checked(row);
    }

    // ---- codes

    private static void packetsOfFewBytes() {
        Kit.about("5, code 1 it has fewer than 13 bytes; bytes 2, 3 (0 for those it has not)");
        byte[] row = Kit.filled(Kit.hex("180C C123"), 60, 0x77);
        for (int n = 1; n <= 6; n++) {
            dueCode(n + " bytes", 1, Arrays.copyOf(row, n));
        }
        for (int n = 7; n <= 12; n++) {
            byte[] head = Kit.filled(Kit.join(Kit.hex("180C C123"), Kit.two(n - 7), Kit.hex("201101")), 12, 0);
            dueCode(n + " bytes, as told, CHECK is right", 1, Kit.checked(Arrays.copyOf(head, n - 2)));
        }
        dueCode("13 bytes", 0, TEST);
        // nothing is left from a longer one that came before
        for (int n = 1; n <= 4; n++) {
            CraftHouse x = new CraftHouse();
            bypass(x, Kit.filled(NOTHING, 60, 0xEE));
            bypass(x, Kit.filled(NOTHING, n, 0xEE));
            x.tick(1);
            x.carry(1, 64000);
            dueReport(n + " bytes behind 60", x, 1, 2, b(n > 2 ? 0xEE : 0, n > 3 ? 0xEE : 0, 1));
        }
    }

    private static void packetsOfOtherLengths() {
        Kit.about("5, code 1, or other bytes than its length tells");
        for (int bytes : new int[] {7, 12, 14, 60, 255 + 13, 256 + 13, 65542}) {
            dueCode("13 bytes, told " + bytes, 1, tells(TEST, bytes));
        }
        byte[] big = Kit.packetUp(5, 0, 6, 2, Kit.join(Kit.two(0), b(32), new byte[32]));
        dueCode("48 bytes", 0, big);
        dueCode("48 bytes, told 47", 1, tells(big, 47));
        dueCode("48 bytes, told 49", 1, tells(big, 49));
        dueCode("48 bytes, told 13", 1, tells(big, 13));
    }

    private static void packetsWithAnotherCheck() {
        Kit.about("5, code 2 CHECK");
        for (int bit = 0; bit < 8 * 13; bit++) {
            byte[] row = TEST.clone();
            row[bit / 8] ^= (byte) (0x80 >> bit % 8);
            boolean length = bit >= 32 && bit < 48;
            dueCode("bit " + bit, length ? 1 : 2, row);
        }
    }

    private static void packetsWithAnotherHead() {
        Kit.about("5, code 3 its first two bytes are not 18 0C, or the ACKS' byte is not 2x");
        for (int bit = 0; bit < 16; bit++) {
            int place = bit / 8;
            dueCode("bit " + bit, 3, changed(TEST, place, TEST[place] ^ 0x80 >> bit % 8));
        }
        for (int high = 0; high < 16; high++) {
            dueCode("ACKS' byte " + high + "0", high == 2 ? 0 : 3, changed(TEST, 6, 16 * high));
            dueCode("ACKS' byte " + high + "F", high == 2 ? 0 : 3, changed(TEST, 6, 16 * high + 15));
        }
    }

    private static void bitsThatAreNotLookedAt() {
        Kit.about("5, what no code tells is not looked at: the bits ahead of COUNT, the source");
        dueCode("00 ahead of COUNT", 0, changed(TEST, 2, 0x01));
        dueCode("40 ahead of COUNT", 0, changed(TEST, 2, 0x41));
        dueCode("a source", 0, changed(TEST, 9, 255));
        dueCode("a source", 0, changed(TEST, 10, 255));
    }

    private static void servicesThatAreNone() {
        Kit.about("5, code 4 no such service");
        for (int service : new int[] {0, 1, 2, 4, 7, 9, 10, 13, 14, 16, 18, 21, 255}) {
            for (int subtype : new int[] {0, 1, 255}) {
                dueCode("service " + service, 4, Kit.packetUp(9, 0, service, subtype, NOTHING));
            }
        }
    }

    private static void subtypesThatAreNone() {
        Kit.about("5, code 5 no such subtype: those of reports too");
        int[][] none = {{3, 0}, {3, 2}, {3, 4}, {3, 7}, {3, 25}, {3, 26}, {3, 28}, {5, 0}, {5, 1}, {5, 4}, {5, 7}, {6, 0}, {6, 1},
            {6, 3}, {6, 4}, {6, 6}, {6, 8}, {6, 10}, {8, 0}, {8, 2}, {11, 0}, {11, 6}, {11, 14}, {11, 17}, {11, 19}, {11, 22},
            {12, 0}, {12, 3}, {12, 4}, {12, 7}, {12, 12}, {12, 14}, {15, 0}, {15, 4}, {15, 8}, {15, 10}, {15, 13}, {17, 0},
            {17, 2}, {19, 0}, {19, 3}, {19, 6}, {20, 0}, {20, 2}, {20, 4}, {17, 255}};
        for (int[] each : none) {
            dueCode(each[0] + ", " + each[1], 5, Kit.packetUp(9, 0, each[0], each[1], NOTHING));
        }
    }

    private static void theFirstThatIsSo() {
        Kit.about("5, the first that is so");
        byte[] none = Kit.packetUp(9, 0, 99, 1, NOTHING);
        dueCode("1 and 2", 1, wrongCheck(tells(TEST, 14)));
        dueCode("1 and 3", 1, changed(tells(TEST, 14), 0, 0x19));
        dueCode("2 and 3", 2, wrongCheck(changed(TEST, 0, 0x19)));
        dueCode("2 and 4", 2, wrongCheck(none));
        dueCode("3 and 4", 3, changed(none, 6, 0x30));
        dueCode("3 and 5", 3, changed(Kit.packetUp(9, 0, 17, 9, NOTHING), 6, 0x30));
        dueCode("4 and 6", 4, Kit.packetUp(9, 0, 99, 1, new byte[20]));
        dueCode("5 and 6", 5, Kit.packetUp(9, 0, 17, 2, new byte[20]));
    }

    private static void theFirstThatIsSoWithEight() {
        Kit.about("5, code 7 REQUESTS has 8: of what the SCHEDULE or an ACTION gives; the first that is so");
        byte[][] packets = {TEST, Kit.packetUp(0x123, 0, 17, 1, b(0)), wrongCheck(TEST), Kit.packetUp(0x123, 0, 17, 9, NOTHING)};
        int[] codes = {7, 6, 2, 5};
        for (int i = 0; i < packets.length; i++) {
            for (int held = 7; held <= 8; held++) {
                CraftHouse x = new CraftHouse();
                act(x, 11, 1);
                act(x, 11, 4, b(0), Kit.four(9), packets[i]);
                x.tick(6);
                x.carry(1, 64000);
                for (int n = 0; n < held; n++) {
                    send(x, 0, 17, 1);
                }
                due("REQUESTS", x.craft(6), held);
                x.tick(1);
                boolean fine = i == 0 && held == 7;
                due("REFUSED with " + held, x.parameter(18), fine ? 0 : 1);
                due("REQUESTS then", x.craft(6), held - 4 + (fine ? 1 : 0));
                x.tick(5);
                x.carry(1, 64000);
                if (!fine) {
                    dueReport("with " + held, x, 1, 2, b(0xC1, 0x23, codes[i]));
                }
            }
        }
    }

    // ---- reports

    private static void refusedWhateverAcksAre() {
        Kit.about("5, 1, 2, 1, 4 and 1, 8 whatever ACKS are; with a code: REFUSED one more");
        for (int acks = 0; acks < 16; acks++) {
            CraftHouse x = new CraftHouse();
            send(x, acks, 17, 1, b(0));
            send(x, acks, 8, 1, b(4, 0, 0, 0, 0));
            send(x, acks, 8, 1, b(2, 0, 0, 0, 0));
            x.tick(4);
            x.carry(1, 64000);
            due("ACKS " + acks + ": REFUSED", x.became(0, 0), 6);
            due("ACKS " + acks + ": its code", x.became(0, 1), 6);
            due("ACKS " + acks + ": NOT STARTED", x.became(1, 0), 8);
            due("ACKS " + acks + ": its code", x.became(1, 1), 15);
            due("ACKS " + acks + ": FAILED", x.became(2, 0), 10);
            due("ACKS " + acks + ": its code", x.became(2, 1), 16);
            due("REFUSED", x.parameter(18), 1);
            due("FAILED", x.parameter(19), 2);
            due("DONE", x.parameter(20), 0);
            due("packets made", x.craft(14), 3 + 2 * (acks >> 3) + (acks >> 2 & 1));
        }
    }

    private static void acksOfOneThatIsDone() {
        Kit.about("5, report 1, 1 if ACKS has 8; 1, 3 if ACKS has 4; 1, 7 if ACKS has 1");
        for (int acks = 0; acks < 16; acks++) {
            CraftHouse x = new CraftHouse();
            send(x, acks, 17, 1);
            x.tick(3);
            x.carry(1, 64000);
            int[] kinds = new int[8];
            int n = 0;
            if ((acks & 8) != 0) {
                kinds[n++] = 1;
                kinds[n++] = 1;
            }
            if ((acks & 4) != 0) {
                kinds[n++] = 1;
                kinds[n++] = 3;
            }
            kinds[n++] = 17;
            kinds[n++] = 2;
            if ((acks & 1) != 0) {
                kinds[n++] = 1;
                kinds[n++] = 7;
            }
            dueKinds("ACKS " + acks, x, Arrays.copyOf(kinds, n));
            due("ACKS " + acks + ": became", x.became(0, 0), (acks & 1) != 0 ? 9 : (acks & 4) != 0 ? 7 : (acks & 8) != 0 ? 5 : 2);
            due("DONE", x.parameter(20), 1);
        }
    }

    private static void oneThatFailsThen() {
        Kit.about("5, one that fails then: report 1, 8 instead, FAILED one more");
        CraftHouse x = new CraftHouse();
        send(x, 15, 8, 1, b(2, 0, 0, 0, 0));
        x.tick(3);
        x.carry(1, 64000);
        dueKinds("fails then", x, 1, 1, 1, 3, 1, 8);
        dueReport("fails then", x, 1, 8, b(0xC0, 0, 16));
        due("FAILED", x.parameter(19), 1);
        due("DONE", x.parameter(20), 0);
    }

    private static void oneThatIsNotStarted() {
        Kit.about("5, report 1, 4, FAILED one more, nothing else is changed");
        CraftHouse x = new CraftHouse();
        send(x, 15, 8, 1, b(255, 0, 0, 0, 9));
        x.tick(3);
        x.carry(1, 64000);
        dueKinds("not started", x, 1, 1, 1, 4);
        dueReport("not started", x, 1, 4, b(0xC0, 0, 15));
        due("FAILED", x.parameter(19), 1);
        due("DONE", x.parameter(20), 0);
        due("PARAMETER 0", x.parameter(0), 0);
    }

    private static void bytesOfTheRequestInReports() {
        Kit.about("5, reports 1, x: its bytes 2, 3, as they are");
        for (int two : new int[] {0x0000, 0x4001, 0x8002, 0xFFFF}) {
            CraftHouse x = new CraftHouse();
            bypass(x, changed(changed(Kit.packetUp(0, 15, 17, 1, NOTHING), 2, two >> 8), 3, two));
            bypass(x, changed(changed(Kit.packetUp(0, 15, 17, 1, b(0)), 2, two >> 8), 3, two));
            x.tick(4);
            x.carry(1, 64000);
            dueReport("1, 1", x, 1, 1, Kit.two(two));
            dueReport("1, 2", x, 1, 2, Kit.join(Kit.two(two), b(6)));
            dueReport("1, 3", x, 1, 3, Kit.two(two));
            dueReport("1, 7", x, 1, 7, Kit.two(two));
        }
    }

    private static void sourcesThatAreAny() {
        Kit.about("5, a source (two bytes): nothing is told of it, so it is any");
        for (int source : new int[] {0, 1, 255, 0xFF00, 0xFFFF}) {
            CraftHouse x = new CraftHouse();
            from(x, source, 12, 5, watch(5, 3, 1, 9, 1, 4));
            from(x, source, 15, 1, b(1));
            from(x, source, 3, 1, b(5, 0, 9, 1, 3));
            from(x, source, 20, 3, Kit.join(b(1, 15), Kit.four(6)));
            from(x, source, 5, 6, b(31));
            from(x, source, 11, 21, b(3));
            from(x, source, 6, 2, b(0, 1, 1, 99));
            from(x, source, 19, 1, Kit.join(b(30, 1), TEST));
            x.tick(2);
            due("DONE", x.parameter(20), 8);
            due("watch", x.watch(5, 0), 1);
            due("store", x.store(1, 1), 1);
            due("structure", x.structure(5, 2), 9);
            due("parameter", x.parameter(15), 6);
            due("event", x.event(31, 0), 0);
            due("group", x.entry(NONE, 5), 0);
            due("memory", x.memory(1), 99);
            due("ACTION", x.event(30, 3), 13);
        }
    }

    private static void from(CraftHouse x, int source, int service, int subtype, byte[] data) {
        byte[] packet = Kit.packetUp(1, 0, service, subtype, data);
        bypass(x, changed(changed(packet, 9, source >> 8), 10, source));
    }

    private static void countOfTheFirst() {
        Kit.about("5, COUNT down: 0 of the first, one more with each that is made");
        CraftHouse x = new CraftHouse();
        send(x, 15, 17, 1);
        x.tick(3);
        x.carry(1, 64000);
        for (int i = 0; i < 4; i++) {
            due("COUNT", x.archived(3 - i, 4), i);
        }
        due("made", x.craft(14), 4);
        due("MISSING", x.came(7), 0);
    }

    private static void requestsDoneInATick() {
        Kit.about("6, EACH TICK: REQUESTS: the first four of those that there are then");
        for (int n = 0; n <= 8; n++) {
            CraftHouse x = new CraftHouse();
            for (int i = 0; i < n; i++) {
                send(x, 0, 17, 1);
            }
            x.tick(1);
            due(n + ": DONE", x.parameter(20), Math.min(n, 4));
            due(n + ": REQUESTS", x.craft(6), Math.max(n - 4, 0));
            x.tick(1);
            due(n + ": DONE", x.parameter(20), n);
        }
    }

    private static void requestsThatComeInTheTick() {
        Kit.about("6, EACH TICK: of those that there are then: not those that come of them");
        CraftHouse x = new CraftHouse();
        act(x, 19, 1, b(1, 1), TEST);
        send(x, 0, 8, 1, b(3), Kit.four(1));
        x.tick(1);
        due("DONE", x.parameter(20), 2);
        due("the ACTION's", x.craft(6), 1);
        x.tick(1);
        due("DONE", x.parameter(20), 3);
        due("the ACTION's", x.craft(6), 0);
    }
}
