import java.util.ArrayList;
import java.util.List;

/** Promises 25 to 34: the craft, its machine, its services, what it sends. */
public final class CraftTest extends Trip {
    private CraftTest() {
    }

    public static void main(String[] args) {
        promise25();
        promise25Order();
        promise25Frames();
        promise25StoredFrames();
        promises26And27();
        promise28();
        promise29Machine();
        promise29Control();
        promise29BadFrames();
        promise29Full();
        refused();
        acks();
        promise30();
        promise31();
        promise31Looks();
        promise32();
        promise32Depth();
        promise33();
        promise33Goes();
        promise34();
        promise34Kinds();
        Kit.end();
    }

    private static void promise25() {
        Kit.about("promise 25");
        CraftHouse x = new CraftHouse();
        Kit.due("tick(-1)", x.tick(-1), BAD);
        Kit.due("tick(201)", x.tick(201), BAD);
        Kit.due("tick(0)", x.tick(0), 0);
        Kit.due("tick(1)", x.tick(1), 1);
        Kit.due("bits", x.bits(1), 544);
        Kit.due("tick(200)", x.tick(200), 201);
        Kit.due("parameter(23)", x.parameter(23), 201);
        Kit.due("lines are full", x.bits(1), 64000 / 544 * 544);
    }

    private static void promise25Order() {
        Kit.about("promise 25, order");
        CraftHouse x = new CraftHouse();
        for (int i = 0; i < 6; i++) {
            ask(x, 8, 1, b(1), Kit.four(100 + i));
        }
        Kit.due("REQUESTS", x.craft(6), 6);
        x.tick(1);
        Kit.due("four are done", x.craft(6), 2);
        Kit.due("parameter(20)", x.parameter(20), 4);
        Kit.due("the fourth", x.parameter(0), 103);
        x.tick(1);
        Kit.due("the rest", x.craft(6), 0);
        Kit.due("the sixth", x.parameter(0), 105);
        // an entry that goes is looked at ahead of the REQUESTS of the same tick
        CraftHouse y = new CraftHouse();
        done(y, 11, 1);
        done(y, 11, 4, b(0), Kit.four(10), Kit.packetUp(7, 0, 8, 1, Kit.join(b(1), Kit.four(55))));
        done(y, 3, 1, b(0), Kit.two(1), b(1, 0));
        done(y, 3, 5, b(0));
        y.tick(10 - y.tick(0));
        y.carry(1, 64000);
        Kit.due("done in the tick", y.parameter(0), 55);
        dueReport("a report ahead of it", y, 3, 25, Kit.join(b(0, 1, 0), Kit.four(0)));
    }

    private static void dueFrame(CraftHouse x, int i, int channel, int own, int first, byte[] content, byte[] report) {
        Kit.dueBytes("mark " + i, Kit.onLine(x, 1, 544 * i, 4), Kit.hex("1ACFFC1D"));
        byte[] head = Kit.join(Kit.two(0x0AB1 | channel << 1), b(i, own), Kit.two(0x1800 | first));
        Kit.dueBytes("frame " + i, frameAt(x, i), Kit.checked(Kit.join(head, content, report)));
    }

    private static void promise25Frames() {
        Kit.about("promise 25, frames");
        CraftHouse x = new CraftHouse();
        byte[] still = Kit.hex("01000000");
        byte[] fives = Kit.filled(NOTHING, 52, 0x55);
        x.tick(1);
        dueFrame(x, 0, 7, 0, 0x7FE, fives, still);
        byte[] report = Kit.hex("01000200");
        ask(x, 17, 1);
        x.tick(1);
        byte[] all = Kit.join(Kit.packetDown(0, 1, 1, 1, Kit.hex("C000")), Kit.packetDown(1, 1, 3, 2, Kit.hex("C000")),
            Kit.packetDown(2, 17, 2, 2, NOTHING), Kit.packetDown(3, 1, 7, 2, Kit.hex("C000")));
        Kit.due("bytes", all.length, 66);
        dueFrame(x, 1, 0, 0, 0, java.util.Arrays.copyOf(all, 52), report);
        Kit.due("LIVE", x.craft(7), 0);
        x.tick(1);
        byte[] rest = Kit.join(java.util.Arrays.copyOfRange(all, 52, 66), idle(38));
        dueFrame(x, 2, 0, 1, 14, rest, report);
        x.tick(1);
        dueFrame(x, 3, 7, 1, 0x7FE, fives, report);
        // six bytes are left: an idle packet of 7, whose last byte goes on in LIVE's next frame
        CraftHouse y = new CraftHouse();
        Kit.inject(y, 0, Kit.unit(Kit.frame(true, false, 0, Kit.packetUp(9, 0, 6, 5, Kit.hex("0000 0E")))));
        y.carry(0, 32000);
        Kit.inject(y, 0, Kit.unit(Kit.frame(true, false, 0, Kit.packetUp(9, 0, 17, 1, NOTHING))));
        y.carry(0, 32000);
        y.tick(1);
        byte[] both = Kit.join(Kit.packetDown(0, 6, 6, 1, Kit.join(Kit.hex("00000E"), new byte[14])),
            Kit.packetDown(1, 17, 2, 1, NOTHING));
        Kit.due("bytes", both.length, 47);
        dueFrame(y, 0, 0, 0, 0, Kit.join(both, Kit.hex("07FFC00000")), Kit.hex("01000400"));
        y.tick(1);
        dueFrame(y, 1, 7, 0, 0x7FE, fives, Kit.hex("01000400"));
        Kit.inject(y, 0, Kit.unit(Kit.frame(true, false, 0, Kit.packetUp(9, 0, 17, 1, NOTHING))));
        y.carry(0, 32000);
        y.tick(1);
        byte[] next = Kit.join(Kit.hex("0000"), Kit.packetDown(2, 17, 2, 3, NOTHING), idle(35));
        dueFrame(y, 2, 0, 1, 2, next, Kit.hex("01000600"));
        y.carry(1, 64000);
        Kit.due("came whole", y.came(5), 3);
        Kit.due("BAD packets", y.came(6), 0);
        // a packet as long as two frames: FIRST is 7FF where none begins
        CraftHouse z = new CraftHouse();
        for (int i = 0; i < 2; i++) {
            Kit.inject(z, 0, Kit.unit(Kit.frame(true, false, 0, Kit.packetUp(9, 0, 6, 5, Kit.hex("0000 40")))));
            z.carry(0, 32000);
        }
        z.tick(3);
        byte[] big = Kit.join(Kit.hex("000040"), new byte[64]);
        byte[] row = Kit.join(Kit.packetDown(0, 6, 6, 1, big), Kit.packetDown(1, 6, 6, 1, big));
        dueFrame(z, 0, 0, 0, 0, java.util.Arrays.copyOf(row, 52), Kit.hex("01000400"));
        dueFrame(z, 1, 0, 1, 30, java.util.Arrays.copyOfRange(row, 52, 104), Kit.hex("01000400"));
        dueFrame(z, 2, 0, 2, 0x7FF, java.util.Arrays.copyOfRange(row, 104, 156), Kit.hex("01000400"));
    }

    private static void promise25StoredFrames() {
        Kit.about("promise 25, STORED frames");
        CraftHouse x = new CraftHouse();
        done(x, 15, 3, b(0, 17, 2));
        done(x, 15, 1, b(0));
        for (int i = 0; i < 12; i++) {
            done(x, 17, 1);
        }
        Kit.due("packets", x.store(0, 2), 12);
        x.tick(3);
        x.carry(1, 64000);
        x.wipe();
        Kit.feed(x, Kit.join(b(0), Kit.four(0), Kit.four(9999)));
        x.request(15, 9, 0, true);
        for (int i = 0; i < 3; i++) {
            x.request(17, 1, 15, true);
        }
        x.carry(0, 32000);
        x.tick(9);
        int[] channels = {1, 0, 1, 0, 1, 0, 1, 0, 7};
        for (int i = 0; i < 9; i++) {
            Kit.due("channel " + i, (frameAt(x, i)[1] >> 1) & 7, channels[i]);
        }
        int had = x.came(5);
        x.carry(1, 64000);
        Kit.due("came whole", x.came(5), had + 12 + 12);
        Kit.due("MISSING", x.came(7), 0);
        Kit.due("GAPS", x.came(4), 0);
        dueDone("then", 0, x, 15, 9, b(1), Kit.four(0), Kit.four(99));
    }

    private static void promises26And27() {
        Kit.about("promises 26, 27");
        CraftHouse x = new CraftHouse();
        Kit.due("sense(0, -5)", x.sense(0, -5), 0);
        Kit.due("sense(0, 6)", x.sense(0, 6), -5);
        Kit.due("sense(15, 7)", x.sense(15, 7), 0);
        Kit.due("sense(16, 7)", x.sense(16, 7), 0);
        Kit.due("sense(-1, 7)", x.sense(-1, 7), 0);
        Kit.due("parameter(0)", x.parameter(0), 6);
        Kit.due("parameter(15)", x.parameter(15), 7);
        Kit.due("parameter(16)", x.parameter(16), 0);
        Kit.due("parameter(24)", x.parameter(24), 0);
        Kit.due("parameter(-1)", x.parameter(-1), 0);
        dueDone("set", 0, x, 20, 3, b(2, 1), Kit.four(-3), b(1), Kit.four(0x12345678));
        Kit.due("in order", x.parameter(1), 0x12345678);
        dueDone("none above 15", 10, x, 20, 3, b(2, 2), Kit.four(9), b(16), Kit.four(9));
        Kit.due("unchanged", x.parameter(2), 0);
        dueDone("get", 0, x, 20, 1, b(3, 1, 0, 16));
        dueReport("get", x, 20, 2, Kit.join(b(3, 1), Kit.four(0x12345678), b(0), Kit.four(6), b(16), Kit.four(3)));
        Kit.due("shown(1, 1)", x.shown(1, 1), 0x12345678);
        Kit.due("shown(1, 2)", x.shown(1, 2), x.archived(newest(x, 20, 2), 3));
        dueDone("none above 23", 10, x, 20, 1, b(2, 23, 24));
        int[] want = {4, 0, 0, 2, 2, 0, 0, x.tick(0)};
        for (int p = 16; p < 24; p++) {
            Kit.due("parameter(" + p + ")", x.parameter(p), want[p - 16]);
        }
        dueDone("function 0", 0, x, 8, 1, b(0), Kit.four(9));
        dueDone("function 1", 0, x, 8, 1, b(1), Kit.four(-77));
        Kit.due("parameter(0)", x.parameter(0), -77);
        dueDone("function 2", 16, x, 8, 1, b(2), Kit.four(9));
        Kit.due("it is FAILED", x.became(x.requests() - 1, 0), 10);
        dueDone("function 4", 15, x, 8, 1, b(4), Kit.four(9));
        Kit.due("it is NOT STARTED", x.became(x.requests() - 1, 0), 8);
        dueDone("function 3", 0, x, 8, 1, b(3), Kit.four(-1));
        dueReport("an event", x, 5, 4, Kit.join(b(31), Kit.four(-1)));
        Kit.due("parameter(22)", x.parameter(22), 1);
        Kit.due("parameter(19)", x.parameter(19), 4);
        Kit.due("parameter(20)", x.parameter(20), 5);
    }

    private static void promise28() {
        Kit.about("promise 28");
        CraftHouse x = new CraftHouse();
        Kit.due("memory(-1)", x.memory(-1), BAD);
        Kit.due("memory(1024)", x.memory(1024), BAD);
        dueDone("put", 0, x, 6, 2, Kit.two(766), b(2, 0xAB, 0xCD));
        Kit.due("memory(766)", x.memory(766), 0xAB);
        Kit.due("memory(767)", x.memory(767), 0xCD);
        Kit.due("memory(768)", x.memory(768), 0);
        dueDone("at 768", 12, x, 6, 2, Kit.two(767), b(2, 1, 1));
        Kit.due("memory(767)", x.memory(767), 0xCD);
        dueDone("at 1023", 12, x, 6, 2, Kit.two(1022), b(2, 1, 1));
        dueDone("beyond 1023", 11, x, 6, 2, Kit.two(1023), b(2, 1, 1));
        dueDone("far beyond", 11, x, 6, 2, Kit.two(65535), b(2, 1, 1));
        dueDone("32", 0, x, 6, 2, Kit.two(0), b(32), Kit.filled(NOTHING, 32, 9));
        Kit.due("memory(31)", x.memory(31), 9);
        dueDone("33", 6, x, 6, 2, Kit.two(0), b(33), new byte[33]);
        dueDone("none", 6, x, 6, 2, Kit.two(0), b(0));
        dueDone("one too many", 6, x, 6, 2, Kit.two(0), b(1, 2, 3));
        dueDone("get", 0, x, 6, 5, Kit.two(765), b(4));
        dueReport("get", x, 6, 6, Kit.join(Kit.two(765), b(4, 0, 0xAB, 0xCD, 0)));
        dueDone("get 64", 0, x, 6, 5, Kit.two(960), b(64));
        dueReport("get 64", x, 6, 6, Kit.join(Kit.two(960), b(64), new byte[64]));
        dueDone("get 64 beyond", 11, x, 6, 5, Kit.two(961), b(64));
        dueDone("get 65", 6, x, 6, 5, Kit.two(0), b(65));
        dueDone("get 0", 6, x, 6, 5, Kit.two(0), b(0));
        dueDone("check", 0, x, 6, 9, Kit.two(765), Kit.two(4));
        dueReport("check", x, 6, 10, Kit.join(Kit.two(765), Kit.two(4), Kit.two(Kit.checkOf(Kit.hex("00ABCD00")))));
        dueDone("check all", 0, x, 6, 9, Kit.two(0), Kit.two(1024));
        dueDone("check beyond", 11, x, 6, 9, Kit.two(1), Kit.two(1024));
        dueDone("check far beyond", 11, x, 6, 9, Kit.two(65535), Kit.two(65535));
        dueDone("check none", 6, x, 6, 9, Kit.two(1), Kit.two(0));
    }

    private static void promise29Machine() {
        Kit.about("promise 29");
        for (int w : new int[] {2, 4, 16, 254}) {
            for (int d = 0; d < 256; d++) {
                CraftHouse x = new CraftHouse();
                x.direct(11, w);
                Kit.inject(x, 0, Kit.unit(Kit.frame(true, true, 0, b(0x82, 0, 250))));
                number(x, 250 + d & 255);
                boolean again = d >= 1 && d <= w / 2 - 1;
                boolean nothing = d >= 256 - w / 2;
                int lockout = d == 0 || again || nothing ? 0 : 1;
                dueCraft("W " + w + " d " + d, x, d == 0 ? 251 : 250, lockout, 0, again ? 1 : 0, 1, w, d == 0 ? 1 : 0);
            }
        }
        CraftHouse x = new CraftHouse();
        number(x, 3);
        dueCraft("AGAIN", x, 0, 0, 0, 1, 0, 16, 0);
        number(x, 0);
        dueCraft("the due one", x, 1, 0, 0, 0, 0, 16, 1);
        for (int i = 1; i < 8; i++) {
            number(x, i);
        }
        dueCraft("eight", x, 8, 0, 0, 0, 0, 16, 8);
        number(x, 8);
        dueCraft("WAIT", x, 8, 0, 1, 1, 0, 16, 8);
        int made = x.craft(14);
        number(x, 8);
        dueCraft("under WAIT nothing", x, 8, 0, 1, 1, 0, 16, 8);
        Kit.due("made", x.craft(14), made);
        Kit.due("TAKEN", x.parameter(16), 8);
        x.tick(1);
        dueCraft("WAIT ends", x, 8, 0, 0, 1, 0, 16, 4);
        number(x, 8);
        dueCraft("taken then", x, 9, 0, 0, 0, 0, 16, 5);
        Kit.due("craft(16)", x.craft(16), BAD);
        Kit.due("craft(-1)", x.craft(-1), BAD);
        Kit.due("parameter(16)", x.parameter(16), 9);
        number(x, 100);
        number(x, 9);
        dueCraft("under LOCKOUT", x, 9, 1, 0, 0, 0, 16, 5);
        x.tick(1);
        x.lose(1, 64000);
        x.tick(1);
        x.carry(1, 64000);
        Kit.due("its report", x.came(10), 16);
        Kit.due("its report's V", x.came(9), 9);
    }

    private static void promise29Control() {
        CraftHouse x = new CraftHouse();
        number(x, 100);
        number(x, 1);
        Kit.inject(x, 0, Kit.unit(Kit.frame(true, true, 9, b(0x82, 0, 50))));
        x.carry(0, 32000);
        dueCraft("SET under LOCKOUT", x, 0, 1, 0, 0, 1);
        Kit.inject(x, 0, Kit.unit(Kit.frame(true, true, 7, b(0))));
        x.carry(0, 32000);
        dueCraft("UNLOCK", x, 0, 0, 0, 0, 2);
        number(x, 3);
        dueCraft("AGAIN", x, 0, 0, 0, 1, 2);
        Kit.inject(x, 0, Kit.unit(Kit.frame(true, true, 0, b(0x82, 0, 50))));
        x.carry(0, 32000);
        dueCraft("SET", x, 50, 0, 0, 0, 3);
        Kit.inject(x, 0, Kit.unit(Kit.frame(true, false, 200, TEST)));
        x.carry(0, 32000);
        dueCraft("BYPASS, B wraps", x, 50, 0, 0, 0, 0, 16, 1);
        Kit.due("parameter(16)", x.parameter(16), 1);
        Kit.due("parameter(17)", x.parameter(17), 0);
    }

    private static byte[] other(int place, int mask) {
        byte[] row = Kit.frame(false, false, 0, TEST);
        row = java.util.Arrays.copyOf(row, row.length - 2);
        row[place] ^= (byte) mask;
        return Kit.checked(row);
    }

    private static void promise29BadFrames() {
        Kit.about("promise 29, frames that are BAD");
        List<byte[]> bad = new ArrayList<>();
        bad.add(other(0, 0x08));
        bad.add(other(0, 0x04));
        bad.add(other(0, 0x01));
        bad.add(other(1, 0x10));
        bad.add(other(2, 0x80));
        bad.add(other(0, 0x10));
        byte[] wrongCheck = Kit.frame(false, false, 0, TEST);
        wrongCheck[8] ^= 1;
        bad.add(wrongCheck);
        bad.add(Kit.frame(false, true, 0, b(0)));
        bad.add(Kit.frame(true, true, 0, b(1)));
        bad.add(Kit.frame(true, true, 0, b(0, 0)));
        bad.add(Kit.frame(true, true, 0, b(0x82, 0)));
        bad.add(Kit.frame(true, true, 0, b(0x82, 1, 5)));
        bad.add(Kit.frame(true, true, 0, b(0x82, 0, 5, 5)));
        bad.add(Kit.frame(false, false, 0, new byte[61]));
        bad.add(Kit.frame(true, false, 0, new byte[61]));
        bad.add(Kit.frame(false, false, 0, NOTHING));
        for (int i = 0; i < bad.size(); i++) {
            CraftHouse x = new CraftHouse();
            Kit.inject(x, 0, Kit.unit(bad.get(i)));
            x.carry(0, 32000);
            dueCraft("frame " + i, x, 0, 0, 0, 0, 0, 16, 0, 0);
            Kit.due("BAD, frame " + i, x.parameter(17), 1);
            Kit.due("TAKEN, frame " + i, x.parameter(16), 0);
        }
        // several frames in one unit, the last one cut off
        CraftHouse x = new CraftHouse();
        byte[] row = Kit.join(Kit.frame(true, false, 0, TEST), Kit.frame(false, true, 0, b(0)),
            Kit.frame(false, false, 0, TEST), java.util.Arrays.copyOf(Kit.frame(false, false, 1, TEST), 12));
        byte[] unit = Kit.unit(Kit.join(row, new byte[(7 - row.length % 7) % 7]));
        Kit.inject(x, 0, unit);
        x.carry(0, 32000);
        dueCraft("several", x, 1, 0, 0, 0, 1, 16, 2);
        Kit.due("BAD", x.parameter(17), 2);
        // six bytes are no frame, and neither is what begins with a bit 1
        for (byte[] none : new byte[][] {Kit.hex("405500 00000000"), Kit.hex("80AB00 06000000")}) {
            CraftHouse y = new CraftHouse();
            Kit.inject(y, 0, Kit.unit(none));
            y.carry(0, 32000);
            Kit.due("no frame", y.parameter(17), 0);
        }
        // a content of 60 bytes is fine (as a frame; it is no packet)
        CraftHouse z = new CraftHouse();
        Kit.inject(z, 0, Kit.unit(Kit.frame(false, false, 0, new byte[60])));
        z.carry(0, 32000);
        Kit.due("TAKEN", z.parameter(16), 1);
        Kit.due("REFUSED", z.parameter(18), 1);
    }

    private static void promise29Full() {
        Kit.about("promise 29, no room");
        CraftHouse x = new CraftHouse();
        for (int i = 0; i < 10; i++) {
            Kit.inject(x, 0, Kit.unit(Kit.frame(true, false, 0, TEST)));
            x.carry(0, 32000);
        }
        dueCraft("ten with BYPASS", x, 0, 0, 0, 0, 2, 16, 8);
        Kit.due("lost ones", x.craft(15), 2);
        Kit.due("TAKEN", x.parameter(16), 8);
        // LIVE has 24 packets at most
        CraftHouse y = new CraftHouse();
        for (int i = 0; i < 8; i++) {
            ask(y, 17, 1);
        }
        Kit.due("LIVE", y.craft(7), 8);
        number(y, 0);
        Kit.due("WAIT", y.craft(2), 1);
        y.tick(1);
        Kit.due("LIVE", y.craft(7), 8 + 12 - 4);
        for (int i = 0; i < 8 + 3; i++) {
            Kit.inject(y, 0, Kit.unit(Kit.frame(true, false, 0, b(1))));
        }
        y.carry(0, 32000);
        Kit.due("LIVE", y.craft(7), 24);
        Kit.due("lost ones of LIVE", y.craft(9), 3);
        Kit.due("made", y.craft(14), 8 + 12 + 8 + 3);
    }

    private static void dueRefused(String what, int code, byte[] packet) {
        CraftHouse x = new CraftHouse();
        Kit.inject(x, 0, Kit.unit(Kit.frame(true, false, 0, packet)));
        x.carry(0, 32000);
        x.tick(1);
        x.carry(1, 64000);
        byte[] two = Kit.filled(NOTHING, 2, 0);
        for (int i = 2; i < 4 && i < packet.length; i++) {
            two[i - 2] = packet[i];
        }
        if (code == 0) {
            Kit.due(what + ": REFUSED", x.parameter(18), 0);
            Kit.due(what + ": DONE", x.parameter(20), 1);
            return;
        }
        Kit.due(what + ": REFUSED", x.parameter(18), 1);
        dueReport(what, x, 1, 2, Kit.join(two, b(code)));
    }

    private static void refused() {
        Kit.about("promise 15, packets that are refused");
        dueRefused("fine", 0, TEST);
        dueRefused("other bits of COUNT", 0, changed(TEST, 2, 1));
        dueRefused("a source", 0, changed(TEST, 9, 1));
        dueRefused("a byte", 1, b(0x18));
        dueRefused("three bytes", 1, b(0x18, 0x0C, 0xC1));
        dueRefused("12 bytes", 1, Kit.checked(Kit.hex("180C C123 0005 20 1101 00")));
        dueRefused("another length", 1, changed(TEST, 5, 7));
        dueRefused("another length", 1, changed(TEST, 4, 1));
        byte[] wrongCheck = TEST.clone();
        wrongCheck[12] ^= 1;
        dueRefused("CHECK", 2, wrongCheck);
        dueRefused("head", 3, changed(TEST, 0, 0x19));
        dueRefused("head", 3, changed(TEST, 1, 0x0D));
        dueRefused("ACKS' byte", 3, changed(TEST, 6, 0x10));
        dueRefused("ACKS' byte", 3, changed(TEST, 6, 0x3F));
        for (int service = 0; service < 256; service++) {
            boolean there = List.of(3, 5, 6, 8, 11, 12, 15, 17, 19, 20).contains(service);
            dueRefused("service " + service, there ? 5 : 4, Kit.packetUp(1, 0, service, 250, NOTHING));
        }
        int[][] kinds = {{3, 1, 3, 5, 6, 27}, {5, 5, 6}, {6, 2, 5, 9}, {8, 1}, {11, 1, 2, 3, 4, 5, 15, 16, 20, 21},
            {12, 1, 2, 5, 6, 13}, {15, 1, 2, 3, 9, 11, 12}, {17, 1}, {19, 1, 2, 4, 5}, {20, 1, 3}};
        for (int[] kind : kinds) {
            for (int subtype = 0; subtype < 40; subtype++) {
                boolean there = false;
                for (int i = 1; i < kind.length; i++) {
                    there |= kind[i] == subtype;
                }
                // 47 bytes of FF fit none
                dueRefused(kind[0] + ", " + subtype, there ? 6 : 5,
                    Kit.packetUp(1, 0, kind[0], subtype, Kit.filled(NOTHING, 47, 255)));
            }
        }
        String[] wrong = {"20,1 00", "20,1 09 010203040506070809", "20,1 02 01", "20,1 01 0102", "20,3 00", "20,3 02 0100000000",
            "20,3 07 0000000001 0000000001 0000000001 0000000001 0000000001 0000000001 0000000001",
            "3,1 00 0000 01 00", "3,1 00 0001 00", "3,1 00 0001 09 000000000000000000", "3,1 00 0001 02 00",
            "3,3", "3,5 0000", "3,6", "3,27", "5,5", "5,6 0000", "8,1 00000000", "8,1 000000000000", "12,5 0000 00000000 00000000 01",
            "12,5 0000 00000000 00000000 01 00 00", "12,6", "12,1", "12,2", "12,13 00", "19,1 00 02 180CC1230006201101000000AA",
            "19,1 00 01 180CC12300062011010000", "19,2", "19,4", "19,5", "11,1 00", "11,2 00", "11,3 00", "11,16 00",
            "11,5 00", "11,5 000000", "11,15 000000", "11,20", "11,21 0000", "15,12 00", "15,12 00 02", "15,1", "15,2 0000",
            "15,3 0001", "15,3 00010101", "15,9 00 00000000 000000", "15,11 00 000000", "17,1 00", "6,9 0000 0000", "6,5 0000"};
        for (String each : wrong) {
            String[] parts = each.split(" ", 2);
            String[] kind = parts[0].split(",");
            byte[] data = Kit.hex(parts.length > 1 ? parts[1] : "");
            dueRefused(each, 6, Kit.packetUp(1, 0, Integer.parseInt(kind[0]), Integer.parseInt(kind[1]), data));
        }
        // of bytes that a packet has not nothing is left from the one before
        for (int n = 1; n < 5; n++) {
            CraftHouse x = new CraftHouse();
            byte[] full = Kit.filled(NOTHING, 60, 0xEE);
            Kit.inject(x, 0, Kit.unit(Kit.frame(true, false, 0, full)));
            Kit.inject(x, 0, Kit.unit(Kit.frame(true, false, 0, java.util.Arrays.copyOf(full, n))));
            x.carry(0, 32000);
            x.tick(1);
            x.carry(1, 64000);
            dueReport("after a long one", x, 1, 2, b(n > 2 ? 0xEE : 0, n > 3 ? 0xEE : 0, 1));
        }
        byte[] forty = new byte[41];
        dueRefused("a packet of 41 bytes", 6, Kit.packetUp(1, 0, 19, 1, Kit.join(b(0, 1), forty)));
        dueRefused("a packet of 41 bytes", 6, Kit.packetUp(1, 0, 11, 4, Kit.join(b(0), Kit.four(99), forty)));
        dueRefused("a packet of 40 bytes", 0, Kit.packetUp(1, 0, 19, 1, Kit.join(b(0, 1), new byte[40])));
        dueRefused("a packet of 40 bytes", 0, Kit.packetUp(1, 0, 11, 4, Kit.join(b(0), Kit.four(99), new byte[40])));
        dueRefused("a packet of 12 bytes", 6, Kit.packetUp(1, 0, 11, 4, Kit.join(b(0), Kit.four(99), new byte[12])));
        dueRefused("a packet of 13 bytes", 0, Kit.packetUp(1, 0, 11, 4, Kit.join(b(0), Kit.four(99), new byte[13])));
    }

    private static void acks() {
        Kit.about("promise 15, ACKS");
        for (int acks = 0; acks < 16; acks++) {
            for (int k : new int[] {0, 2, 9}) {
                CraftHouse x = new CraftHouse();
                Kit.feed(x, Kit.join(b(k), Kit.four(5)));
                x.request(8, 1, acks, true);
                x.carry(0, 32000);
                x.tick(5);
                x.carry(1, 64000);
                boolean fails = k != 0;
                String what = "ACKS " + acks + " function " + k;
                Kit.due(what + " 1, 1", newest(x, 1, 1) >= 0 ? 1 : 0, (acks & 8) / 8);
                Kit.due(what + " 1, 3", newest(x, 1, 3) >= 0 ? 1 : 0, k == 9 ? 0 : (acks & 4) / 4);
                Kit.due(what + " 1, 4", newest(x, 1, 4) >= 0 ? 1 : 0, k == 9 ? 1 : 0);
                Kit.due(what + " 1, 7", newest(x, 1, 7) >= 0 ? 1 : 0, fails ? 0 : acks & 1);
                Kit.due(what + " 1, 8", newest(x, 1, 8) >= 0 ? 1 : 0, k == 2 ? 1 : 0);
                Kit.due(what + " made", x.craft(14), x.came(5));
            }
        }
    }

    private static void promise30() {
        Kit.about("promise 30");
        CraftHouse x = new CraftHouse();
        Kit.due("structure(6, 0)", x.structure(6, 0), BAD);
        Kit.due("structure(-1, 0)", x.structure(-1, 0), BAD);
        Kit.due("structure(0, 1)", x.structure(0, 1), BAD);
        Kit.due("structure(0, -1)", x.structure(0, -1), BAD);
        dueDone("none such p", 10, x, 3, 1, b(6), Kit.two(3), b(2, 5, 24));
        dueDone("none such s", 13, x, 3, 1, b(6), Kit.two(3), b(2, 5, 23));
        dueDone("a structure", 0, x, 3, 1, b(5), Kit.two(3), b(2, 5, 23));
        dueStructure(x, 5, 1, 0, 3, 0, 2, 5, 23, BAD);
        dueDone("it is there", 13, x, 3, 1, b(5), Kit.two(3), b(2, 5, 23));
        x.sense(5, -2);
        dueDone("its report", 0, x, 3, 27, b(5));
        int tick = x.archived(newest(x, 3, 25), 3);
        dueReport("its report", x, 3, 25, Kit.join(b(5, 2, 5), Kit.four(-2), b(23), Kit.four(tick)));
        int number = ask(x, 3, 5, b(5));
        x.tick(1);
        dueStructure(x, 5, 1, 1, 3, 3);
        int made = x.craft(14);
        x.tick(2);
        dueStructure(x, 5, 1, 1, 3, 1);
        Kit.due("made", x.craft(14), made);
        x.tick(1);
        dueStructure(x, 5, 1, 1, 3, 3);
        Kit.due("made", x.craft(14), made + 1);
        x.carry(1, 64000);
        Kit.due("3, 5", x.became(number, 0), 9);
        dueDone("on", 13, x, 3, 3, b(5));
        int wait = x.structure(5, 3);
        ask(x, 3, 6, b(5));
        x.tick(1);
        dueStructure(x, 5, 1, 0, 3, wait == 1 ? 3 : wait - 1);
        wait = x.structure(5, 3);
        x.tick(7);
        dueStructure(x, 5, 1, 0, 3, wait, 2);
        dueDone("gone", 0, x, 3, 3, b(5));
        Kit.due("structure(5, 0)", x.structure(5, 0), 0);
        Kit.due("structure(5, 2)", x.structure(5, 2), BAD);
        for (int subtype : new int[] {3, 5, 6, 27}) {
            dueDone("not there", 13, x, 3, subtype, b(5));
            dueDone("none such", 13, x, 3, subtype, b(255));
        }
        dueDone("eight p", 0, x, 3, 1, b(0), Kit.two(65535), b(8, 0, 1, 2, 3, 4, 5, 6, 7));
        dueStructure(x, 0, 1, 0, 65535, 0, 8, 0, 1, 2, 3, 4, 5, 6, 7, BAD);
        dueDone("on again", 0, x, 3, 5, b(0));
    }

    private static void promise31() {
        Kit.about("promise 31");
        CraftHouse x = new CraftHouse();
        Kit.due("watch(6, 0)", x.watch(6, 0), BAD);
        Kit.due("watch(-1, 0)", x.watch(-1, 0), BAD);
        Kit.due("watch(0, 1)", x.watch(0, 1), BAD);
        dueDone("p", 10, x, 12, 5, watch(6, 24, 5, 4, 0, 32));
        dueDone("event", 14, x, 12, 5, watch(6, 23, 5, 4, 0, 32));
        dueDone("m", 17, x, 12, 5, watch(6, 23, 5, 4, 0, 31));
        dueDone("low, high", 18, x, 12, 5, watch(5, 23, 5, 4, 1, 31));
        dueDone("times", 18, x, 12, 5, watch(5, 23, 4, 4, 0, 31));
        dueDone("a watch", 0, x, 12, 5, watch(5, 1, -4, 4, 2, 31));
        dueWatch(x, 5, 1, 1, -4, 4, 2, 31, 0, BAD);
        Kit.due("watch(5, -1)", x.watch(5, -1), BAD);
        dueDone("it is there", 17, x, 12, 5, watch(5, 1, -4, 4, 2, 31));
        for (int subtype : new int[] {1, 2, 6}) {
            dueDone("not there", 17, x, 12, subtype, b(4));
            dueDone("none such", 17, x, 12, subtype, b(6));
        }
        dueDone("on", 0, x, 12, 1, b(5));
        dueDone("it is on", 17, x, 12, 6, b(5));
        dueDone("a report", 0, x, 12, 13);
        dueReport("a report", x, 12, 14, b(0, 0, 0, 0, 0, 3));
        dueDone("off", 0, x, 12, 2, b(5));
        dueWatch(x, 5, 1, 1, -4, 4, 2, 31, 0);
        dueDone("a report", 0, x, 12, 13);
        dueReport("a report", x, 12, 14, b(0, 0, 0, 0, 0, 1));
        dueDone("gone", 0, x, 12, 6, b(5));
        Kit.due("watch(5, 0)", x.watch(5, 0), 0);
        Kit.due("watch(5, 6)", x.watch(5, 6), BAD);
    }

    private static void promise31Looks() {
        Kit.about("promise 31, looks");
        CraftHouse x = new CraftHouse();
        done(x, 12, 5, watch(2, 1, -4, 4, 2, 9));
        x.sense(1, 5);
        ask(x, 12, 1, b(2));
        x.tick(1);
        dueWatch(x, 2, 2, 1, -4, 4, 2, 9, 0);
        x.tick(1);
        dueWatch(x, 2, 2, 1, -4, 4, 2, 9, 1);
        x.tick(1);
        dueWatch(x, 2, 5, 1, -4, 4, 2, 9, 2);
        Kit.due("events", x.parameter(22), 1);
        x.sense(1, -5);
        x.tick(1);
        dueWatch(x, 2, 5, 1, -4, 4, 2, 9, 1);
        x.sense(1, 4);
        x.tick(1);
        dueWatch(x, 2, 5, 1, -4, 4, 2, 9, 1);
        x.tick(1);
        dueWatch(x, 2, 3, 1, -4, 4, 2, 9, 2);
        Kit.due("events", x.parameter(22), 1);
        x.carry(1, 64000);
        x.tick(2);
        x.carry(1, 64000);
        dueReport("12, 12", x, 12, 12, Kit.join(b(2, 1), Kit.four(4), b(5, 3)));
        dueReport("5, 2", x, 5, 2, Kit.join(b(9), Kit.four(5)));
        x.tick(200);
        x.tick(100);
        Kit.due("its row", x.watch(2, 6), 255);
        ask(x, 12, 1, b(2));
        x.tick(1);
        dueWatch(x, 2, 2, 1, -4, 4, 2, 9, 0);
        x.sense(1, -4);
        x.tick(2);
        dueWatch(x, 2, 3, 1, -4, 4, 2, 9, 2);
        x.sense(1, Integer.MIN_VALUE);
        x.tick(2);
        dueWatch(x, 2, 4, 1, -4, 4, 2, 9, 2);
        Kit.due("events", x.parameter(22), 2);
    }

    private static void promise32() {
        Kit.about("promise 32");
        CraftHouse x = new CraftHouse();
        Kit.due("event(32, 0)", x.event(32, 0), BAD);
        Kit.due("event(-1, 0)", x.event(-1, 0), BAD);
        Kit.due("event(0, 4)", x.event(0, 4), BAD);
        Kit.due("event(0, -1)", x.event(0, -1), BAD);
        dueDone("none such", 14, x, 5, 5, b(32));
        dueDone("none such", 14, x, 5, 6, b(255));
        dueDone("off", 0, x, 5, 6, b(31));
        Kit.due("event(31, 0)", x.event(31, 0), 0);
        Kit.due("event(30, 0)", x.event(30, 0), 1);
        int made = x.craft(14);
        dueDone("an event that is off", 0, x, 8, 1, b(3), Kit.four(31));
        Kit.due("made", x.craft(14), made + 3);
        Kit.due("events", x.parameter(22), 1);
        dueDone("on", 0, x, 5, 5, b(31));
        Kit.due("event(31, 0)", x.event(31, 0), 1);
        for (int e = 0; e < 32; e++) {
            dueDone("an event", 0, x, 8, 1, b(3), Kit.four(64 + e));
            dueReport("event " + e, x, 5, 1 + e / 8, Kit.join(b(e), Kit.four(64 + e)));
        }
        byte[] action = Kit.packetUp(77, 15, 8, 1, Kit.join(b(1), Kit.four(4242)));
        dueDone("none such", 14, x, 19, 1, b(32, 1), action);
        dueDone("an ACTION", 0, x, 19, 1, b(8, 0), action);
        int[] want = {1, 1, 0, action.length};
        for (int i = 0; i < 4; i++) {
            Kit.due("event(8, " + i + ")", x.event(8, i), want[i]);
        }
        dueDone("it has one", 19, x, 19, 1, b(8, 1), action);
        for (int subtype : new int[] {2, 4, 5}) {
            dueDone("it has none", 19, x, 19, subtype, b(9));
            dueDone("none such", 14, x, 19, subtype, b(32));
        }
        dueDone("its event", 0, x, 8, 1, b(3), Kit.four(8));
        x.tick(1);
        Kit.due("the ACTION is off", x.parameter(0), 0);
        dueDone("on", 0, x, 19, 4, b(8));
        Kit.due("event(8, 2)", x.event(8, 2), 1);
        dueDone("its event", 0, x, 8, 1, b(3), Kit.four(8));
        x.tick(1);
        Kit.due("the ACTION", x.parameter(0), 4242);
        dueDone("off", 0, x, 19, 5, b(8));
        Kit.due("event(8, 2)", x.event(8, 2), 0);
        dueDone("gone", 0, x, 19, 2, b(8));
        for (int i = 1; i < 4; i++) {
            Kit.due("event(8, " + i + ")", x.event(8, i), 0);
        }
        for (int e = 0; e < 32; e++) {
            dueDone("an ACTION", 0, x, 19, 1, b(e, 1), Kit.filled(action, 40, 0));
        }
        for (int e = 0; e < 32; e++) {
            Kit.due("event(" + e + ", 3)", x.event(e, 3), 40);
        }
    }

    private static void promise32Depth() {
        Kit.about("promise 32, DEPTH");
        // an event whose ACTION raises it again: it ends at a DEPTH of 4
        CraftHouse x = new CraftHouse();
        byte[] again = Kit.packetUp(5, 0, 8, 1, Kit.join(b(3), Kit.four(1)));
        done(x, 19, 1, b(1, 1), again);
        done(x, 8, 1, b(3), Kit.four(1));
        x.tick(20);
        Kit.due("events", x.parameter(22), 5);
        // from a WATCH: DEPTH 0 as well, so that its ACTION has 1
        CraftHouse y = new CraftHouse();
        done(y, 19, 1, b(1, 1), again);
        done(y, 12, 5, watch(0, 1, 0, 0, 1, 1));
        y.sense(1, 1);
        done(y, 12, 1, b(0));
        y.tick(20);
        Kit.due("events", y.parameter(22), 5);
        // from the SCHEDULE: DEPTH 0
        CraftHouse v = new CraftHouse();
        done(v, 19, 1, b(1, 1), again);
        done(v, 11, 1);
        done(v, 11, 4, b(0), Kit.four(50), again);
        v.tick(80);
        Kit.due("events", v.parameter(22), 5);
        // an ACTION that finds REQUESTS with 8 is refused
        CraftHouse z = new CraftHouse();
        done(z, 19, 1, b(1, 1), Kit.packetUp(0x345, 0, 17, 1, NOTHING));
        done(z, 12, 5, watch(0, 1, 0, 0, 1, 1));
        done(z, 12, 1, b(0));
        for (int i = 0; i < 8; i++) {
            z.request(17, 1, 0, true);
        }
        z.carry(0, 32000);
        z.sense(1, 1);
        z.tick(1);
        Kit.due("REFUSED", z.parameter(18), 1);
        z.tick(6);
        z.carry(1, 64000);
        dueReport("code 7", z, 1, 2, b(0xC3, 0x45, 7));
    }

    private static void promise33() {
        Kit.about("promise 33");
        CraftHouse x = new CraftHouse();
        Kit.due("entry(NONE, 6)", x.entry(NONE, 6), BAD);
        Kit.due("entry(NONE, -1)", x.entry(NONE, -1), BAD);
        Kit.due("entry(0, 0)", x.entry(0, 0), BAD);
        Kit.due("entry(-1, 0)", x.entry(-1, 0), BAD);
        Kit.due("entry(-3, 0)", x.entry(-3, 0), BAD);
        dueDone("on", 0, x, 11, 1);
        Kit.due("entry(NONE, 1)", x.entry(NONE, 1), 1);
        dueDone("off", 0, x, 11, 2);
        Kit.due("entry(NONE, 1)", x.entry(NONE, 1), 0);
        dueDone("group 4", 20, x, 11, 21, b(4));
        dueDone("group 4", 20, x, 11, 20, b(4));
        dueDone("group 3 off", 0, x, 11, 21, b(3));
        Kit.due("entry(NONE, 5)", x.entry(NONE, 5), 0);
        Kit.due("entry(NONE, 4)", x.entry(NONE, 4), 1);
        dueDone("group 3 on", 0, x, 11, 20, b(3));
        Kit.due("entry(NONE, 5)", x.entry(NONE, 5), 1);
        dueDone("group 4", 20, x, 11, 4, b(4), Kit.four(0), TEST);
        // it is done with the next tick: not above TICK + 1 is too early
        dueDone("too early", 21, x, 11, 4, b(3), Kit.four(x.tick(0) + 2), TEST);
        dueDone("below 0", 21, x, 11, 4, b(3), Kit.four(-5), TEST);
        dueDone("early", 0, x, 11, 4, b(3), Kit.four(x.tick(0) + 300), TEST);
        int first = x.entry(0, 0);
        dueDone("earlier", 0, x, 11, 4, b(2), Kit.four(first - 5), Kit.packetUp(1, 0, 17, 1, NOTHING));
        dueDone("as early", 0, x, 11, 4, b(1), Kit.four(first), Kit.packetUp(2, 0, 8, 1, Kit.join(b(0), Kit.four(0))));
        dueDone("the last", 0, x, 11, 4, b(0), Kit.four(Integer.MAX_VALUE - 1), Kit.packetUp(1, 0, 17, 1, NOTHING));
        int[][] want = {{first - 5, 2, 13}, {first, 3, 13}, {first, 1, 18}, {Integer.MAX_VALUE - 1, 0, 13}};
        for (int i = 0; i < 4; i++) {
            for (int k = 0; k < 3; k++) {
                Kit.due("entry(" + i + ", " + k + ")", x.entry(i, k), want[i][k]);
            }
        }
        Kit.due("entry(4, 0)", x.entry(4, 0), BAD);
        Kit.due("entry(0, 3)", x.entry(0, 3), BAD);
        Kit.due("entry(0, -1)", x.entry(0, -1), BAD);
        Kit.due("entry(NONE, 0)", x.entry(NONE, 0), 4);
        Kit.due("parameter(21)", x.parameter(21), 4);
        dueDone("a report", 0, x, 11, 16);
        dueReport("a report", x, 11, 17, Kit.join(b(4), Kit.four(first - 5), Kit.two(1), Kit.four(first), Kit.two(0x123),
            Kit.four(first), Kit.two(2), Kit.four(Integer.MAX_VALUE - 1), Kit.two(1)));
        dueDone("beyond", 21, x, 11, 15, Kit.four(2));
        dueDone("too early", 21, x, 11, 15, Kit.four(x.tick(0) + 2 - (first - 5)));
        dueDone("later", 0, x, 11, 15, Kit.four(1));
        Kit.due("entry(0, 0)", x.entry(0, 0), first - 4);
        Kit.due("entry(3, 0)", x.entry(3, 0), Integer.MAX_VALUE);
        dueDone("earlier", 0, x, 11, 15, Kit.four(-1));
        dueDone("no such count", 23, x, 11, 5, Kit.two(3));
        dueDone("no such count", 23, x, 11, 5, Kit.two(0xC001));
        dueDone("the first with count 1", 0, x, 11, 5, Kit.two(1));
        Kit.due("entry(0, 0)", x.entry(0, 0), first);
        dueDone("the other with count 1", 0, x, 11, 5, Kit.two(1));
        Kit.due("entries", x.entry(NONE, 0), 2);
        for (int i = 0; i < 14; i++) {
            dueDone("one more", 0, x, 11, 4, b(0), Kit.four(1000), TEST);
        }
        dueDone("16 entries", 22, x, 11, 4, b(0), Kit.four(1000), TEST);
        dueDone("too early is first", 21, x, 11, 4, b(0), Kit.four(0), TEST);
        dueDone("a report", 0, x, 11, 16);
        Kit.due("eight at most", x.archived(newest(x, 11, 17), 5), 15 + 1 + 8 * 6);
        dueDone("empty", 0, x, 11, 3);
        Kit.due("entries", x.entry(NONE, 0), 0);
        dueDone("shift of none", 0, x, 11, 15, Kit.four(Integer.MIN_VALUE));
    }

    private static byte[] setTo(int count, int p, int v) {
        return Kit.packetUp(count, 0, 20, 3, Kit.join(b(1, p), Kit.four(v)));
    }

    private static void promise33Goes() {
        Kit.about("promise 33, entries go");
        CraftHouse x = new CraftHouse();
        dueDone("off", 0, x, 11, 4, b(0), Kit.four(20), setTo(1, 1, 5));
        x.tick(25 - x.tick(0));
        Kit.due("it went", x.entry(NONE, 0), 0);
        Kit.due("it was not looked at", x.parameter(1), 0);
        done(x, 11, 1);
        done(x, 11, 21, b(2));
        done(x, 11, 4, b(2), Kit.four(60), setTo(1, 1, 5));
        done(x, 11, 4, b(1), Kit.four(60), setTo(1, 2, 6));
        done(x, 11, 4, b(1), Kit.four(60), setTo(1, 2, 7));
        done(x, 11, 4, b(1), Kit.four(59), setTo(1, 2, 8));
        x.tick(59 - x.tick(0));
        Kit.due("the first", x.parameter(2), 8);
        Kit.due("entries", x.entry(NONE, 0), 3);
        x.tick(1);
        Kit.due("the others", x.parameter(2), 7);
        Kit.due("the group is off", x.parameter(1), 0);
        Kit.due("entries", x.entry(NONE, 0), 0);
        // an entry's packet is looked at as any other
        done(x, 11, 4, b(1), Kit.four(x.tick(0) + 10), Kit.filled(NOTHING, 13, 0));
        x.tick(12);
        Kit.due("REFUSED", x.parameter(18), 1);
        // nine of one tick: the ninth finds REQUESTS with 8
        CraftHouse y = new CraftHouse();
        done(y, 11, 1);
        for (int i = 0; i < 10; i++) {
            done(y, 11, 4, b(0), Kit.four(90), TEST);
        }
        y.tick(90 - y.tick(0));
        Kit.due("REFUSED", y.parameter(18), 2);
        Kit.due("REQUESTS", y.craft(6), 4);
        // all 16 of one tick go
        for (int i = 0; i < 16; i++) {
            done(y, 11, 4, b(0), Kit.four(400), TEST);
        }
        Kit.due("entries", y.entry(NONE, 0), 16);
        y.tick(200);
        y.tick(399 - y.tick(0));
        Kit.due("entries", y.entry(NONE, 0), 16);
        y.tick(1);
        Kit.due("entries", y.entry(NONE, 0), 0);
        Kit.due("REFUSED", y.parameter(18), 2 + 8);
    }

    private static void promise34() {
        Kit.about("promise 34");
        CraftHouse x = new CraftHouse();
        Kit.due("store(2, 0)", x.store(2, 0), BAD);
        Kit.due("store(-1, 0)", x.store(-1, 0), BAD);
        Kit.due("store(0, 8)", x.store(0, 8), BAD);
        Kit.due("store(0, -1)", x.store(0, -1), BAD);
        dueDone("none such", 24, x, 15, 12, b(2, 0));
        dueDone("none such", 24, x, 15, 1, b(2));
        dueDone("none such", 24, x, 15, 2, b(255));
        dueDone("none such", 24, x, 15, 3, b(2, 17, 2));
        dueDone("none such", 24, x, 15, 9, b(2), Kit.four(0), Kit.four(0));
        dueDone("none such", 24, x, 15, 11, b(2), Kit.four(0));
        dueDone("choose", 0, x, 15, 3, b(1, 17, 2));
        dueDone("choose again", 0, x, 15, 3, b(1, 17, 2));
        dueStore(x, 1, 0, 0, 0, 0, 0, 1, NONE, NONE);
        dueDone("it is off", 0, x, 17, 1);
        dueStore(x, 1, 0, 0, 0, 0, 0, 1, NONE, NONE);
        dueDone("on", 0, x, 15, 1, b(1));
        dueDone("one", 0, x, 17, 1);
        int first = x.archived(newest(x, 17, 2), 3);
        dueStore(x, 1, 0, 1, 1, 15, 0, 1, first, first);
        dueDone("two", 0, x, 17, 1);
        int second = x.archived(newest(x, 17, 2), 3);
        dueDone("another kind", 0, x, 12, 13);
        dueStore(x, 1, 0, 1, 2, 30, 0, 1, first, second);
        dueStore(x, 0, 0, 0, 0, 0, 0, 0, NONE, NONE);
        for (int i = 0; i < 5; i++) {
            dueDone("choose", 0, x, 15, 3, b(1, 200, i));
        }
        dueDone("six are chosen", 25, x, 15, 3, b(1, 200, 5));
        dueDone("one of the six", 0, x, 15, 3, b(1, 200, 4));
        dueDone("up to", 0, x, 15, 11, b(1), Kit.four(first));
        dueStore(x, 1, 0, 1, 1, 15, 0, 6, second, second);
        dueDone("off", 0, x, 15, 2, b(1));
        dueDone("it is off", 0, x, 17, 1);
        dueStore(x, 1, 0, 0, 1, 15, 0, 6, second, second);
        dueDone("anew", 0, x, 15, 12, b(1, 1));
        dueStore(x, 1, 1, 0, 0, 0, 0, 0, NONE, NONE);
    }

    /** 71 packets of 15 bytes and 8 of 17 would be 1201 bytes: one too many. */
    private static void fillByBytes(int kind) {
        CraftHouse x = new CraftHouse();
        done(x, 15, 12, b(0, kind));
        done(x, 15, 3, b(0, 17, 2));
        done(x, 15, 1, b(0));
        for (int i = 0; i < 71; i++) {
            x.request(17, 1, 0, true);
            x.carry(0, 32000);
            x.tick(1);
        }
        dueStore(x, 0, kind, 1, 71, 1065, 0, 1);
        done(x, 15, 3, b(0, 1, 1));
        for (int i = 0; i < 8; i++) {
            x.wipe();
            Kit.feed(x, new byte[5]);
            x.request(8, 1, 8, true);
            x.carry(0, 32000);
            x.tick(1);
        }
        dueStore(x, 0, kind, 1, 78, kind == 0 ? 1065 + 7 * 17 : 1065 + 8 * 17 - 15, kind == 0 ? 1 : 0, 2);
    }

    private static void promise34Kinds() {
        Kit.about("promise 34, kinds");
        CraftHouse x = new CraftHouse();
        done(x, 15, 12, b(1, 1));
        for (int s = 0; s < 2; s++) {
            done(x, 15, 3, b(s, 17, 2));
            done(x, 15, 1, b(s));
        }
        int first = 0;
        int fourth = 0;
        for (int i = 0; i < 84; i++) {
            done(x, 17, 1);
            if (i == 0) {
                first = x.archived(newest(x, 17, 2), 3);
            }
            if (i == 4) {
                fourth = x.archived(newest(x, 17, 2), 3);
            }
        }
        Kit.due("BOUNDED: packets", x.store(0, 2), 80);
        Kit.due("BOUNDED: bytes", x.store(0, 3), 1200);
        Kit.due("BOUNDED: lost", x.store(0, 4), 4);
        Kit.due("BOUNDED: oldest", x.store(0, 6), first);
        Kit.due("CIRCULAR: packets", x.store(1, 2), 80);
        Kit.due("CIRCULAR: lost", x.store(1, 4), 0);
        Kit.due("CIRCULAR: oldest", x.store(1, 6), fourth);
        x.tick(5);
        x.carry(1, 64000);
        ask(x, 15, 9, b(1), Kit.four(0), Kit.four(9999));
        x.tick(1);
        Kit.due("PASSED, when a frame has begun four", x.craft(8), 36);
        ask(x, 15, 9, b(1), Kit.four(0), Kit.four(9999));
        x.tick(1);
        Kit.due("PASSED is not empty: FAILED", x.parameter(19), 1);
        x.tick(40);
        int had = x.came(5);
        x.carry(1, 64000);
        Kit.due("PASSED", x.craft(8), 0);
        Kit.due("code", x.became(x.requests() - 1, 1), 26);
        Kit.due("came", x.came(5), had + 40 + 3 + 2);
        // one packet in PASSED is enough to refuse another 15, 9
        CraftHouse z = new CraftHouse();
        done(z, 15, 3, b(0, 17, 2));
        done(z, 15, 1, b(0));
        done(z, 17, 1);
        ask(z, 15, 9, b(0), Kit.four(0), Kit.four(9999));
        ask(z, 15, 9, b(0), Kit.four(0), Kit.four(9999));
        z.tick(5);
        z.carry(1, 64000);
        Kit.due("the first", z.became(z.requests() - 2, 0), 9);
        Kit.due("the second", z.became(z.requests() - 1, 1), 26);
        fillByBytes(0);
        fillByBytes(1);
        // a range of TICKS
        CraftHouse y = new CraftHouse();
        done(y, 15, 3, b(0, 17, 2));
        done(y, 15, 1, b(0));
        int[] when = new int[5];
        for (int i = 0; i < 5; i++) {
            done(y, 17, 1);
            when[i] = y.archived(newest(y, 17, 2), 3);
        }
        y.tick(4);
        y.carry(1, 64000);
        done(y, 15, 9, b(0), Kit.four(when[1]), Kit.four(when[3]));
        y.tick(4);
        y.carry(1, 64000);
        int stored = 0;
        for (int i = 0; i < 40; i++) {
            if (y.archived(i, 0) == 1) {
                Kit.due("a TICK of the range", y.archived(i, 3), when[3 - stored]);
                stored++;
            }
        }
        Kit.due("three of the range", stored, 3);
    }
}
