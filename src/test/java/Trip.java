import java.util.Arrays;
import java.util.function.Supplier;

/** What goes up and down in the tests: their base, so that they can call it by its plain names. */
abstract class Trip {
    static final int BAD = Kit.BAD;
    static final int NONE = Kit.NONE;
    static final int FULL = Kit.FULL;
    static final int LOCKOUT = 0x20;
    static final int WAIT = 0x10;
    static final int AGAIN = 0x08;
    static final byte[] NOTHING = new byte[0];
    /** A request that does nothing but be tested: 17, 1, without ACKS, of 13 bytes. */
    static final byte[] TEST = Kit.packetUp(0x123, 0, 17, 1, NOTHING);
    static final byte[] FIVES = Kit.filled(NOTHING, 52, 0x55);

    static byte[] b(int... values) {
        return Kit.bytes(values);
    }

    static void due(String call, int got, int want) {
        Kit.due(call, got, want);
    }

    // ---- up

    /** The data of a unit goes up, whatever it is. */
    static void raise(CraftHouse x, byte[]... data) {
        Kit.inject(x, 0, Kit.unit(Kit.join(data)));
        x.carry(0, 32000);
    }

    /** A packet goes up in a frame with a number. */
    static void number(CraftHouse x, int n) {
        raise(x, Kit.frame(false, false, n, TEST));
    }

    /** A packet goes up in a frame with BYPASS. */
    static void bypass(CraftHouse x, byte[] packet) {
        raise(x, Kit.frame(true, false, 0, packet));
    }

    static void unlock(CraftHouse x) {
        raise(x, Kit.frame(true, true, 0, b(0)));
    }

    static void set(CraftHouse x, int v) {
        raise(x, Kit.frame(true, true, 0, b(0x82, 0, v)));
    }

    /** The request goes up with BYPASS: its number. */
    static int send(CraftHouse x, int acks, int service, int subtype, byte[]... data) {
        x.wipe();
        Kit.feed(x, Kit.join(data));
        int number = x.request(service, subtype, acks, true);
        x.carry(0, 32000);
        return number;
    }

    /** The request goes up with BYPASS and all ACKS: its number. */
    static int ask(CraftHouse x, int service, int subtype, byte[]... data) {
        return send(x, 15, service, subtype, data);
    }

    /** What became of it: 9 done; else the code, turned below 0. */
    static int done(CraftHouse x, int service, int subtype, byte[]... data) {
        int number = ask(x, service, subtype, data);
        for (int i = 0; i < 12 && (x.became(number, 0) < 8 && x.became(number, 0) != 6 || i == 0); i++) {
            x.tick(1);
            x.carry(1, 64000);
        }
        return x.became(number, 0) == 9 ? 9 : -x.became(number, 1);
    }

    static void dueDone(String what, int code, CraftHouse x, int service, int subtype, byte[]... data) {
        due(what + " " + service + ", " + subtype, done(x, service, subtype, data), code == 0 ? 9 : -code);
    }

    /** Without ACKS, a tick for it, and nothing is brought down: few calls, and few packets. */
    static void act(CraftHouse x, int service, int subtype, byte[]... data) {
        send(x, 0, service, subtype, data);
        x.tick(1);
    }

    // ---- what came down

    /** The place in the archive of the newest packet of a kind; -1 if there is none. */
    static int newest(CraftHouse x, int service, int subtype) {
        for (int i = 0; i < 40; i++) {
            if (x.archived(i, 1) == service && x.archived(i, 2) == subtype) {
                return i;
            }
        }
        return -1;
    }

    static void dueReport(String what, CraftHouse x, int service, int subtype, byte[] data) {
        int i = newest(x, service, subtype);
        due(what + ": bytes", x.archived(i, 5), 15 + data.length);
        for (int k = 0; k < data.length; k++) {
            due(what + ": data " + k, x.archivedByte(i, 13 + k), data[k] & 255);
        }
    }

    /** The kinds of all that is archived, the oldest first: service, subtype, service .. */
    static void dueKinds(String what, CraftHouse x, int... kinds) {
        int n = kinds.length / 2;
        due(what + ": how many", x.archived(n, 0), BAD);
        for (int i = 0; i < n; i++) {
            due(what + ": service " + i, x.archived(n - 1 - i, 1), kinds[2 * i]);
            due(what + ": subtype " + i, x.archived(n - 1 - i, 2), kinds[2 * i + 1]);
        }
    }

    // ---- down

    /** A frame without packets comes down that brings a report. */
    static void bring(CraftHouse x, int bits, int v) {
        x.lose(1, 64000);
        Kit.inject(x, 1, Kit.frameDown(7, 0, 0, 0x7FE, FIVES, Kit.bytes(1, 0, bits, v)));
        x.carry(1, 64000);
    }

    /** A frame with 52 bytes comes down. */
    static void down(CraftHouse x, int channel, int own, int first, byte[] content) {
        Kit.inject(x, 1, Kit.frameDown(channel, 0, own, first, content, Kit.bytes(1, 0, 0, 0)));
        x.carry(1, 64000);
    }

    /** A packet comes down alone, in a frame of LIVE. */
    static void alone(CraftHouse x, int own, byte[] packet) {
        down(x, 0, own, 0, Kit.filled(Kit.join(packet, idle(52 - packet.length)), 52, 0));
    }

    static byte[] idle(int n) {
        return n < 7 ? NOTHING : Kit.filled(Kit.join(Kit.hex("07FFC000"), Kit.two(n - 7)), n, 0);
    }

    /** Frame i of those that are on the line, without noise. */
    static byte[] frameAt(CraftHouse x, int i) {
        return partAt(x, i, 0, 64);
    }

    /** Bytes from .. to - 1 of frame i of those that are on the line, without noise. */
    static byte[] partAt(CraftHouse x, int i, int from, int to) {
        byte[] row = Kit.onLine(x, 1, 544 * i + 32 + 8 * from, to - from);
        byte[] noise = Kit.noise();
        for (int k = 0; k < row.length; k++) {
            row[k] ^= noise[from + k];
        }
        return row;
    }

    /** Frame i of an object's line, read in parts from objects made alike: each has but 512 calls. */
    static byte[] frameOf(Supplier<CraftHouse> made, int i) {
        byte[] row = NOTHING;
        for (int from = 0; from < 64; from += 16) {
            row = Kit.join(row, partAt(made.get(), i, from, from + 16));
        }
        return row;
    }

    /** CHANNEL, ALL, OWN and FIRST of frame i. */
    static void dueHead(String when, CraftHouse x, int i, int channel, int all, int own, int first) {
        byte[] head = partAt(x, i, 0, 6);
        due(when + ": CHANNEL", head[1] >> 1 & 7, channel);
        due(when + ": ALL", head[2] & 255, all);
        due(when + ": OWN", head[3] & 255, own);
        due(when + ": FIRST", (head[4] & 7) << 8 | head[5] & 255, first);
    }

    // ---- the ground's machine

    /** In STATE 1, with some requests. */
    static CraftHouse begun(int n) {
        CraftHouse x = new CraftHouse();
        x.direct(0, 0);
        for (int i = 0; i < n; i++) {
            x.request(17, 1, 0, false);
        }
        return x;
    }

    static void dueMachine(String when, CraftHouse x, int... want) {
        for (int i = 0; i < want.length; i++) {
            due(when + ": machine(" + i + ")", x.machine(i), want[i]);
        }
    }

    static void dueCraft(String when, CraftHouse x, int... want) {
        for (int i = 0; i < want.length; i++) {
            due(when + ": craft(" + i + ")", x.craft(i), want[i]);
        }
    }

    static void dueStructure(CraftHouse x, int s, int... want) {
        for (int i = 0; i < want.length; i++) {
            due("structure(" + s + ", " + i + ")", x.structure(s, i), want[i]);
        }
    }

    static void dueWatch(CraftHouse x, int m, int... want) {
        for (int i = 0; i < want.length; i++) {
            due("watch(" + m + ", " + i + ")", x.watch(m, i), want[i]);
        }
    }

    static void dueStore(CraftHouse x, int s, int... want) {
        for (int i = 0; i < want.length; i++) {
            due("store(" + s + ", " + i + ")", x.store(s, i), want[i]);
        }
    }

    static byte[] watch(int m, int p, int low, int high, int times, int event) {
        return Kit.join(b(m, p), Kit.four(low), Kit.four(high), b(times, event));
    }

    /** A packet with one of its bytes changed, and CHECK made anew. */
    static byte[] changed(byte[] packet, int place, int v) {
        byte[] row = Arrays.copyOf(packet, packet.length - 2);
        row[place] = (byte) v;
        return Kit.checked(row);
    }
}
