import java.io.ByteArrayOutputStream;
import java.lang.reflect.Method;
import java.util.Arrays;
import java.util.Comparator;

/** What the tests share: counting what is wrong, and codes written anew from the document's words. */
final class Kit {
    static final int BAD = -1;
    static final int NONE = -2;
    static final int FULL = -3;

    private static int wrong = 0;
    private static int looked = 0;
    private static String about = "";

    private Kit() {
    }

    static void about(String promise) {
        about = promise;
    }

    static void due(String call, int got, int want) {
        looked++;
        if (got != want) {
            wrong++;
            if (wrong <= 100) {
                System.out.println(about + ": " + call + " answered " + got + ", due is " + want);
            }
        }
    }

    static void end() {
        System.out.println(looked + " answers looked at, " + wrong + " wrong");
        if (wrong != 0) {
            System.exit(1);
        }
    }

    /** Runs every method of a class that takes nothing and answers nothing: so none is forgotten. */
    static void runAll(Class<?> tests) throws ReflectiveOperationException {
        Method[] methods = tests.getDeclaredMethods();
        Arrays.sort(methods, Comparator.comparing(Method::getName));
        int ran = 0;
        for (Method each : methods) {
            if (each.getParameterCount() == 0 && each.getReturnType() == void.class && !each.isSynthetic()) {
                each.setAccessible(true);
                about(each.getName());
                each.invoke(null);
                ran++;
            }
        }
        System.out.println(ran + " methods with tests");
        end();
    }

    static byte[] bytes(int... values) {
        byte[] row = new byte[values.length];
        for (int i = 0; i < values.length; i++) {
            row[i] = (byte) values[i];
        }
        return row;
    }

    static byte[] hex(String text) {
        String plain = text.replace(" ", "");
        byte[] row = new byte[plain.length() / 2];
        for (int i = 0; i < row.length; i++) {
            row[i] = (byte) Integer.parseInt(plain.substring(2 * i, 2 * i + 2), 16);
        }
        return row;
    }

    static byte[] join(byte[]... parts) {
        ByteArrayOutputStream all = new ByteArrayOutputStream();
        for (byte[] part : parts) {
            all.writeBytes(part);
        }
        return all.toByteArray();
    }

    static byte[] two(int v) {
        return bytes(v >> 8, v);
    }

    static byte[] four(int v) {
        return bytes(v >> 24, v >> 16, v >> 8, v);
    }

    /** CHECK, bit by bit. */
    static int checkOf(byte[] row) {
        int c = 0xFFFF;
        for (byte b : row) {
            for (int i = 7; i >= 0; i--) {
                int bit = (b >> i) & 1;
                c = ((c >> 15) & 1) != bit ? ((2 * c) ^ 0x1021) & 0xFFFF : (2 * c) & 0xFFFF;
            }
        }
        return c;
    }

    static byte[] checked(byte[] row) {
        return join(row, two(checkOf(row)));
    }

    /** The seven bits behind seven bytes, by long division over a row of bits. */
    static int parityOf(byte[] row, int start) {
        int[] bits = new int[63];
        for (int i = 0; i < 56; i++) {
            bits[i] = (row[start + i / 8] >> (7 - i % 8)) & 1;
        }
        for (int i = 0; i < 56; i++) {
            if (bits[i] == 1) {
                for (int place : new int[] {0, 1, 5, 7}) {
                    bits[i + place] ^= 1;
                }
            }
        }
        int parity = 0;
        for (int i = 56; i < 63; i++) {
            parity = 2 * parity + (1 - bits[i]);
        }
        return 2 * parity;
    }

    static byte[] unit(byte[] data) {
        int blocks = (data.length + 6) / 7;
        byte[] filled = new byte[7 * blocks];
        Arrays.fill(filled, (byte) 0x55);
        System.arraycopy(data, 0, filled, 0, data.length);
        byte[] all = hex("EB90");
        for (int i = 0; i < blocks; i++) {
            byte[] seven = Arrays.copyOfRange(filled, 7 * i, 7 * i + 7);
            all = join(all, seven, bytes(parityOf(filled, 7 * i)));
        }
        return join(all, hex("C5C5C5C5C5C5C579"));
    }

    static byte[] frame(boolean bypass, boolean control, int n, byte[] content) {
        int head = (bypass ? 0x2000 : 0) | (control ? 0x1000 : 0) | 0x0AB;
        return checked(join(two(head), two(content.length + 6), bytes(n), content));
    }

    static byte[] packetUp(int count, int acks, int service, int subtype, byte[] data) {
        byte[] head = join(hex("180C"), two(0xC000 | count), two(data.length + 6));
        return checked(join(head, bytes(0x20 | acks, service, subtype, 0, 0), data));
    }

    static byte[] packetDown(int count, int service, int subtype, int tick, byte[] data) {
        byte[] head = join(hex("080C"), two(0xC000 | count), two(data.length + 8));
        return checked(join(head, bytes(0x20, service, subtype), four(tick), data));
    }

    static byte[] noise() {
        int[] bits = new int[512];
        byte[] row = new byte[64];
        for (int k = 0; k < 512; k++) {
            bits[k] = k < 8 ? 1 : bits[k - 1] ^ bits[k - 3] ^ bits[k - 5] ^ bits[k - 8];
            row[k / 8] |= (byte) (bits[k] << (7 - k % 8));
        }
        return row;
    }

    /** A mark and a frame down; content has 52 bytes, report 4. */
    static byte[] frameDown(int channel, int all, int own, int first, byte[] content, byte[] report) {
        byte[] head = join(two(0x0AB1 | (channel << 1)), bytes(all, own, 0x18 | (first >> 8), first));
        byte[] row = checked(join(head, content, report));
        byte[] noise = noise();
        for (int i = 0; i < row.length; i++) {
            row[i] ^= noise[i];
        }
        return join(hex("1ACFFC1D"), row);
    }

    static byte[] filled(byte[] row, int n, int with) {
        byte[] all = new byte[n];
        Arrays.fill(all, (byte) with);
        System.arraycopy(row, 0, all, 0, Math.min(n, row.length));
        return all;
    }

    static void feed(CraftHouse x, byte[] row) {
        int i = 0;
        for (; i + 4 <= row.length; i += 4) {
            int v = (row[i] & 255) << 24 | (row[i + 1] & 255) << 16 | (row[i + 2] & 255) << 8 | row[i + 3] & 255;
            x.feed(v, 4);
        }
        for (; i < row.length; i++) {
            x.feed(row[i], 1);
        }
    }

    static void inject(CraftHouse x, int line, byte[] row) {
        feed(x, row);
        x.inject(line);
    }

    static void dueTape(String what, CraftHouse x, byte[] want) {
        for (int i = 0; i < want.length; i++) {
            due(what + " taped(" + i + ")", x.taped(i), want[i] & 255);
        }
        due(what + " taped(" + want.length + ")", x.taped(want.length), BAD);
    }

    /** The bits of a line, as bytes, from a bit on. */
    static byte[] onLine(CraftHouse x, int line, int from, int n) {
        byte[] row = new byte[n];
        for (int i = 0; i < 8 * n; i++) {
            row[i / 8] |= (byte) (x.bit(line, from + i) << (7 - i % 8));
        }
        return row;
    }

    static void dueBytes(String what, byte[] got, byte[] want) {
        due(what + ": bytes", got.length, want.length);
        for (int i = 0; i < Math.min(got.length, want.length); i++) {
            due(what + ": byte " + i, got[i] & 255, want[i] & 255);
        }
    }
}
