/** Promises 14 to 24: the ground's requests, its machine, its ear and what came. */
public final class GroundTest extends Trip {
    private static final byte[] IDLE = FIVES;

    private GroundTest() {
    }

    public static void main(String[] args) {
        promise14();
        promise15();
        promises16And17();
        promise18Beginnings();
        promise18Others();
        promise18Hold();
        promise19AllAcknowledged();
        promise19SomeAcknowledged();
        promise19AskedAgain();
        promise19Timer();
        promise19Wraps();
        promise20And21Ear();
        promise21Frames();
        promise21Packets();
        promise21LongPackets();
        promises22And23();
        promise24();
        statusTold();
        Kit.end();
    }

    private static void promise14() {
        Kit.about("promise 14");
        CraftHouse x = new CraftHouse();
        x.feed(0xABCDEF, 3);
        Kit.due("build(256, 1, 1)", x.build(256, 1, 1), BAD);
        Kit.due("build(-1, 1, 1)", x.build(-1, 1, 1), BAD);
        Kit.due("build(1, 256, 1)", x.build(1, 256, 1), BAD);
        Kit.due("build(1, -1, 1)", x.build(1, -1, 1), BAD);
        Kit.due("build(1, 1, 16)", x.build(1, 1, 16), BAD);
        Kit.due("build(1, 1, -1)", x.build(1, 1, -1), BAD);
        Kit.due("requests", x.requests(), 0);
        Kit.due("build(255, 254, 15)", x.build(255, 254, 15), 0);
        Kit.dueTape("build", x, Kit.packetUp(0, 15, 255, 254, Kit.hex("ABCDEF")));
        Kit.due("became(0, 0)", x.became(0, 0), 0);
        Kit.due("became(0, 2)", x.became(0, 2), 255);
        Kit.due("became(0, 3)", x.became(0, 3), 254);
        Kit.due("up", x.bits(0), 0);
        Kit.due("wipe", x.wipe(), 16);
        Kit.feed(x, new byte[87]);
        Kit.due("build of 100", x.build(0, 0, 0), 1);
        Kit.due("wipe", x.wipe(), 100);
        Kit.feed(x, new byte[88]);
        Kit.due("build of 101", x.build(0, 0, 0), FULL);
        Kit.due("wipe", x.wipe(), 0);
        Kit.due("requests", x.requests(), 2);
    }

    private static void promise15() {
        Kit.about("promise 15");
        CraftHouse x = new CraftHouse();
        x.feed(7, 1);
        Kit.due("request in 6", x.request(17, 1, 1, false), NONE);
        Kit.due("the tape then", x.wipe(), 0);
        x.feed(7, 1);
        Kit.due("request(256, ..)", x.request(256, 1, 1, true), BAD);
        Kit.due("request(.., 16, ..)", x.request(1, 1, 16, true), BAD);
        Kit.due("request(.., -1, ..)", x.request(1, -1, 1, true), BAD);
        Kit.due("the tape then", x.wipe(), 1);
        x.feed(0x1122, 2);
        Kit.due("request with BYPASS", x.request(9, 8, 7, true), 0);
        byte[] packet = Kit.packetUp(0, 7, 9, 8, Kit.hex("1122"));
        byte[] unit = Kit.unit(Kit.frame(true, false, 0, packet));
        Kit.due("bits", x.bits(0), 8 * unit.length);
        Kit.dueBytes("up", Kit.onLine(x, 0, 0, unit.length), unit);
        Kit.due("became", x.became(0, 0), 2);
        Kit.due("the tape then", x.wipe(), 0);
        x.lose(0, 32000);
        x.direct(0, 0);
        Kit.due("request", x.request(17, 1, 15, false), 1);
        unit = Kit.unit(Kit.frame(false, false, 0, Kit.packetUp(1, 15, 17, 1, new byte[0])));
        Kit.dueBytes("up", Kit.onLine(x, 0, 0, unit.length), unit);
        Kit.feed(x, new byte[48]);
        Kit.due("request of 61", x.request(17, 1, 15, false), FULL);
        Kit.due("the tape then", x.wipe(), 0);
        Kit.feed(x, new byte[48]);
        Kit.due("BYPASS of 61", x.request(17, 1, 15, true), FULL);
        Kit.feed(x, new byte[47]);
        Kit.due("request of 60", x.request(17, 1, 15, false), 2);
        for (int i = 0; i < 6 + 32; i++) {
            Kit.due("request", x.request(17, 1, 0, false), 3 + i);
        }
        Kit.due("SENT", x.machine(7), 8);
        Kit.due("waiting", x.machine(8), 32);
        Kit.due("became, sent", x.became(8, 0), 2);
        Kit.due("became, waiting", x.became(9, 0), 1);
        x.feed(1, 1);
        Kit.due("request, 32 wait", x.request(17, 1, 0, false), FULL);
        Kit.due("the tape then", x.wipe(), 0);
        Kit.due("BYPASS, 32 wait", x.request(17, 1, 0, true), 41);
        for (int directive = 1; directive < 4; directive++) {
            CraftHouse y = new CraftHouse();
            y.direct(directive, 5);
            Kit.due("request in 4, 5", y.request(17, 1, 0, false), NONE);
            Kit.due("BYPASS in 4, 5", y.request(17, 1, 0, true), 0);
        }
    }

    private static void promises16And17() {
        Kit.about("promises 16, 17");
        CraftHouse x = new CraftHouse();
        for (int i = 0; i < 70; i++) {
            Kit.due("requests", x.requests(), i);
            x.wipe();
            x.build(i, 2 * i, 0);
        }
        Kit.due("requests", x.requests(), 70);
        Kit.due("became(5, 0)", x.became(5, 0), BAD);
        Kit.due("became(6, 2)", x.became(6, 2), 6);
        Kit.due("became(69, 3)", x.became(69, 3), 138);
        Kit.due("became(69, 1)", x.became(69, 1), 0);
        Kit.due("became(70, 0)", x.became(70, 0), BAD);
        Kit.due("became(-1, 0)", x.became(-1, 0), BAD);
        Kit.due("became(69, 4)", x.became(69, 4), BAD);
        Kit.due("became(69, -1)", x.became(69, -1), BAD);
    }

    private static void promise18Beginnings() {
        Kit.about("promise 18");
        CraftHouse x = new CraftHouse();
        Kit.due("direct(12, 0)", x.direct(12, 0), BAD);
        Kit.due("direct(-1, 0)", x.direct(-1, 0), BAD);
        Kit.due("direct(3, 256)", x.direct(3, 256), BAD);
        Kit.due("direct(3, -1)", x.direct(3, -1), BAD);
        Kit.due("direct(0, any)", x.direct(0, 12345), 1);
        dueMachine("begun", x, 1, 0, 0, 1, 0, 0, 0, 0, 0, 0);
        for (int i = 0; i < 4; i++) {
            Kit.due("direct(" + i + ") in 1", x.direct(i, 0), NONE);
        }
        Kit.due("direct(3, 256) in 1", x.direct(3, 256), BAD);
        Kit.due("direct(4, any)", x.direct(4, -7), 1);
        dueMachine("ended", x, 6, 0, 0, 1, 0, 0, 7);
        Kit.due("direct(1, any)", x.direct(1, -1), 1);
        dueMachine("with a look", x, 4, 0, 0, 1, 20, 0, 7);
        Kit.due("up", x.bits(0), 0);
        x.direct(4, 0);
        Kit.due("direct(2, any)", x.direct(2, -1), 1);
        dueMachine("with UNLOCK", x, 5, 0, 0, 1, 20, 0, 7);
        byte[] unit = Kit.unit(Kit.frame(true, true, 0, Kit.hex("00")));
        Kit.due("bits", x.bits(0), 8 * unit.length);
        Kit.dueBytes("UNLOCK", Kit.onLine(x, 0, 0, unit.length), unit);
        x.direct(4, 0);
        x.lose(0, 32000);
        Kit.due("direct(3, 255)", x.direct(3, 255), 1);
        dueMachine("with SET", x, 5, 255, 255, 1, 20, 0, 7);
        unit = Kit.unit(Kit.frame(true, true, 0, Kit.hex("8200FF")));
        Kit.due("bits", x.bits(0), 8 * unit.length);
        Kit.dueBytes("SET", Kit.onLine(x, 0, 0, unit.length), unit);
        x.carry(0, 32000);
        Kit.due("craft V", x.craft(0), 255);
        Kit.due("craft B", x.craft(4), 1);
    }

    private static void promise18Others() {
        CraftHouse x = new CraftHouse();
        int[][] ranges = {{6, 0, 255, 1}, {7, 1, 32, 11}, {8, 1, 1000, 12}, {9, 1, 15, 10}, {10, 0, 1, 13}};
        for (int[] range : ranges) {
            Kit.due("below", x.direct(range[0], range[1] - 1), BAD);
            Kit.due("above", x.direct(range[0], range[2] + 1), BAD);
            Kit.due("least", x.direct(range[0], range[1]), 1);
            Kit.due("machine", x.machine(range[3]), range[1]);
            Kit.due("most", x.direct(range[0], range[2]), 1);
            Kit.due("machine", x.machine(range[3]), range[2]);
        }
        Kit.due("A", x.machine(2), 255);
        for (int v : new int[] {0, 1, 3, 253, 255, 256, -2}) {
            Kit.due("direct(11, " + v + ")", x.direct(11, v), BAD);
        }
        Kit.due("direct(11, 2)", x.direct(11, 2), 1);
        Kit.due("direct(11, 254)", x.direct(11, 254), 1);
        Kit.due("craft W", x.craft(5), 254);
        Kit.due("direct(5) without HOLD", x.direct(5, 0), NONE);
        x.direct(0, 0);
        Kit.due("direct(6) in 1", x.direct(6, 3), NONE);
        Kit.due("direct(5) in 1", x.direct(5, 3), NONE);
        Kit.due("direct(7) in 1", x.direct(7, 2), 1);
        Kit.due("direct(8) in 1", x.direct(8, 9), 1);
        Kit.due("direct(9) in 1", x.direct(9, 2), 1);
        Kit.due("direct(10) in 1", x.direct(10, 0), 1);
        for (int i = 0; i < 5; i++) {
            x.request(17, 1, 0, false);
        }
        dueMachine("K 2", x, 1, 1, 255, 1, 9, 0, 0, 2, 3, 0, 2, 2, 9, 0);
        x.direct(4, 0);
        dueMachine("ended", x, 6, 1, 1, 1, 0, 0, 7, 0, 0, 0);
        for (int i = 0; i < 5; i++) {
            Kit.due("LOST", x.became(i, 0), 4);
        }
    }

    private static void promise18Hold() {
        CraftHouse x = new CraftHouse();
        x.direct(10, 1);
        x.direct(9, 1);
        x.direct(8, 2);
        x.direct(7, 1);
        x.direct(0, 0);
        x.request(17, 1, 0, false);
        x.request(17, 1, 0, false);
        x.tick(2);
        dueMachine("held", x, 6, 1, 0, 1, 0, 1, 0, 1, 1, 0);
        Kit.due("direct(6) with HOLD", x.direct(6, 3), NONE);
        Kit.due("request", x.request(17, 1, 0, false), NONE);
        x.direct(7, 2);
        Kit.due("direct(5)", x.direct(5, 0), 1);
        dueMachine("goes on", x, 1, 2, 0, 1, 2, 0, 0, 2, 0, 0);
        x.tick(2);
        dueMachine("held again", x, 6, 2, 0, 1, 0, 1, 0, 2, 0, 0);
        Kit.due("direct(0) with HOLD", x.direct(0, 0), 1);
        dueMachine("begun anew", x, 1, 2, 2, 1, 0, 0, 0, 0, 0, 0);
        Kit.due("LOST", x.became(1, 0), 4);
        x.direct(4, 0);
        x.direct(1, 0);
        x.tick(2);
        dueMachine("a look held", x, 6, 2, 2, 1, 0, 4, 7);
        Kit.due("direct(5)", x.direct(5, 0), 1);
        dueMachine("looks again", x, 4, 2, 2, 1, 2, 0, 7);
        x.tick(2);
        Kit.due("direct(4) with HOLD", x.direct(4, 0), 1);
        dueMachine("ended", x, 6, 2, 2, 1, 0, 0, 7);
    }

    private static void promise19AllAcknowledged() {
        Kit.about("promise 19, x = S");
        CraftHouse off = new CraftHouse();
        bring(off, LOCKOUT, 9);
        dueMachine("in 6", off, 6, 0, 0, 1, 0, 0, 0);
        Kit.due("came(8)", off.came(8), 1);
        CraftHouse x = begun(10);
        dueMachine("ten", x, 1, 8, 0, 1, 20, 0, 0, 8, 2, 0);
        bring(x, 0, 8);
        dueMachine("all", x, 1, 10, 8, 1, 20, 0, 0, 2, 0, 0);
        Kit.due("became(7, 0)", x.became(7, 0), 3);
        Kit.due("became(8, 0)", x.became(8, 0), 2);
        bring(x, 0, 10);
        dueMachine("all", x, 1, 10, 10, 1, 0, 0, 0, 0, 0, 0);
        bring(x, 0, 10);
        dueMachine("again", x, 1, 10, 10, 1, 0, 0, 0);
        dueAlarm("LOCKOUT", begun(2), LOCKOUT, 0, 1);
        dueAlarm("beyond S", begun(2), 0, 3, 2);
        dueAlarm("below A", begun(2), 0, 255, 2);
        dueAlarm("AGAIN", begun(2), AGAIN, 2, 3);
        dueAlarm("AGAIN and WAIT", begun(2), AGAIN | WAIT, 2, 3);
        dueAlarm("WAIT", begun(2), WAIT, 2, 4);
        CraftHouse look = new CraftHouse();
        look.direct(1, 0);
        bring(look, 0, 0);
        dueMachine("a look", look, 1, 0, 0, 1, 0, 0, 0);
        CraftHouse looks = new CraftHouse();
        looks.direct(1, 0);
        dueAlarm("a look, LOCKOUT", looks, LOCKOUT, 0, 1);
        CraftHouse control = new CraftHouse();
        control.direct(2, 0);
        for (int bits : new int[] {LOCKOUT, AGAIN, WAIT, LOCKOUT | AGAIN | WAIT}) {
            bring(control, bits, 0);
            dueMachine("control", control, 5, 0, 0, 1, 20, 0, 0);
        }
        bring(control, 0, 0);
        dueMachine("control", control, 1, 0, 0, 1, 0, 0, 0);
        CraftHouse set = new CraftHouse();
        set.direct(3, 9);
        dueAlarm("control, another V", set, 0, 0, 2);
    }

    private static void dueAlarm(String when, CraftHouse x, int bits, int v, int alarm) {
        bring(x, bits, v);
        Kit.due(when + ": STATE", x.machine(0), 6);
        Kit.due(when + ": A is S", x.machine(2), x.machine(1));
        Kit.due(when + ": TIMER", x.machine(4), 0);
        Kit.due(when + ": ALARM", x.machine(6), alarm);
        Kit.due(when + ": SENT", x.machine(7), 0);
        Kit.due(when + ": waiting", x.machine(8), 0);
        if (x.requests() > 0) {
            Kit.due(when + ": LOST", x.became(x.requests() - 1, 0), 4);
        }
    }

    private static void promise19SomeAcknowledged() {
        Kit.about("promise 19, some");
        CraftHouse x = begun(9);
        bring(x, 0, 0);
        dueMachine("x = A", x, 1, 8, 0, 1, 20, 0, 0, 8, 1, 0);
        x.tick(3);
        bring(x, 0, 3);
        dueMachine("three", x, 1, 9, 3, 1, 20, 0, 0, 6, 0, 0);
        x.tick(3);
        bring(x, 0, 4);
        dueMachine("one more", x, 1, 9, 4, 1, 17, 0, 0, 5, 0, 0);
        dueAlarm("WAIT", begun(3), WAIT, 1, 4);
        CraftHouse again = begun(3);
        bring(again, AGAIN, 0);
        dueMachine("AGAIN", again, 2, 3, 0, 2, 20, 0, 0, 3, 0, 0);
        dueAlarm("x = A in 2", again, 0, 0, 3);
        CraftHouse waits = begun(3);
        bring(waits, AGAIN | WAIT, 0);
        dueMachine("WAIT", waits, 3, 3, 0, 1, 20, 0, 0, 3, 0, 0);
        dueAlarm("x = A in 3", waits, 0, 0, 3);
        waits = begun(3);
        bring(waits, AGAIN | WAIT, 0);
        Kit.due("request in 3", waits.request(17, 1, 0, false), 3);
        dueMachine("request in 3", waits, 3, 3, 0, 1, 20, 0, 0, 3, 1, 0);
        bring(waits, 0, 1);
        dueMachine("one in 3", waits, 1, 4, 1, 1, 20, 0, 0, 3, 0, 0);
    }

    private static void promise19AskedAgain() {
        Kit.about("promise 19, AGAIN");
        CraftHouse x = begun(3);
        x.lose(0, 32000);
        bring(x, AGAIN, 1);
        dueMachine("from 1 on", x, 2, 3, 1, 2, 20, 0, 0, 2, 0, 0);
        byte[] first = Kit.unit(Kit.frame(false, false, 1, Kit.packetUp(1, 0, 17, 1, new byte[0])));
        byte[] second = Kit.unit(Kit.frame(false, false, 2, Kit.packetUp(2, 0, 17, 1, new byte[0])));
        Kit.dueBytes("sent again", Kit.onLine(x, 0, 0, first.length + second.length), Kit.join(first, second));
        x.lose(0, 32000);
        bring(x, AGAIN, 1);
        dueMachine("in 2 nothing", x, 2, 3, 1, 2, 20, 0, 0, 2, 0, 0);
        Kit.due("nothing sent", x.bits(0), 0);
        x.request(17, 1, 0, false);
        dueMachine("more in 2", x, 2, 4, 1, 2, 20, 0, 0, 3, 0, 0);
        bring(x, AGAIN | WAIT, 2);
        dueMachine("WAIT", x, 3, 4, 2, 1, 20, 0, 0, 2, 0, 0);
        x.lose(0, 32000);
        bring(x, AGAIN, 2);
        dueMachine("from 3", x, 2, 4, 2, 2, 20, 0, 0, 2, 0, 0);
        x.direct(9, 2);
        bring(x, AGAIN | WAIT, 2);
        bring(x, AGAIN, 2);
        dueMachine("COUNT is LIMIT", x, 2, 4, 2, 2, 20, 0, 0, 2, 0, 0);
        x.direct(9, 1);
        dueAlarm("LIMIT 1", x, AGAIN, 3, 5);
        Kit.due("became(2, 0)", x.became(2, 0), 3);
        Kit.due("became(3, 0)", x.became(3, 0), 4);
        CraftHouse one = begun(3);
        one.direct(9, 1);
        dueAlarm("LIMIT 1, WAIT", one, AGAIN | WAIT, 0, 5);
    }

    private static void promise19Timer() {
        Kit.about("promise 19, the TIMER");
        CraftHouse x = begun(2);
        x.lose(0, 32000);
        x.tick(19);
        dueMachine("19", x, 1, 2, 0, 1, 1, 0, 0, 2, 0, 0);
        Kit.due("up", x.bits(0), 0);
        x.tick(1);
        dueMachine("20", x, 1, 2, 0, 2, 20, 0, 0, 2, 0, 0);
        Kit.due("up", x.bits(0), 2 * 8 * 34);
        x.tick(20);
        dueMachine("40", x, 1, 2, 0, 3, 20, 0, 0, 2, 0, 0);
        x.tick(20);
        dueMachine("60", x, 6, 2, 2, 3, 0, 0, 6, 0, 0, 0);
        Kit.due("LOST", x.became(0, 0), 4);
        CraftHouse look = new CraftHouse();
        look.direct(1, 0);
        look.tick(20);
        dueMachine("a look", look, 6, 0, 0, 1, 0, 0, 6);
        CraftHouse control = new CraftHouse();
        control.direct(10, 1);
        control.direct(2, 0);
        int bits = control.bits(0);
        control.tick(20);
        dueMachine("control", control, 5, 0, 0, 2, 20, 0, 0);
        Kit.due("sent once more", control.bits(0), 2 * bits);
        Kit.dueBytes("the same", Kit.onLine(control, 0, bits, bits / 8), Kit.onLine(control, 0, 0, bits / 8));
        control.tick(20);
        dueMachine("control", control, 5, 0, 0, 3, 20, 0, 0);
        control.tick(20);
        dueMachine("control", control, 6, 0, 0, 3, 0, 0, 6);
        CraftHouse waits = begun(1);
        bring(waits, AGAIN | WAIT, 0);
        waits.tick(20);
        dueMachine("in 3", waits, 3, 1, 0, 1, 0, 0, 0, 1, 0, 0);
        CraftHouse held = begun(1);
        held.direct(10, 1);
        held.tick(60);
        dueMachine("held", held, 6, 1, 0, 3, 0, 1, 0, 1, 0, 0);
        Kit.due("stays SENT", held.became(0, 0), 2);
        Kit.due("machine(14)", x.machine(14), BAD);
        Kit.due("machine(-1)", x.machine(-1), BAD);
    }

    private static void promise19Wraps() {
        Kit.about("promise 19, numbers wrap");
        CraftHouse x = new CraftHouse();
        x.direct(6, 254);
        x.direct(0, 0);
        for (int i = 0; i < 4; i++) {
            x.request(17, 1, 0, false);
        }
        dueMachine("254 on", x, 1, 2, 254, 1, 20, 0, 0, 4, 0, 0);
        bring(x, 0, 1);
        dueMachine("up to 1", x, 1, 2, 1, 1, 20, 0, 0, 1, 0, 0);
        bring(x, 0, 2);
        dueMachine("up to 2", x, 1, 2, 2, 1, 0, 0, 0, 0, 0, 0);
    }

    private static void promise20And21Ear() {
        Kit.about("promises 20, 21, the ear");
        CraftHouse x = new CraftHouse();
        Kit.due("ear(2, 0)", x.ear(2, 0), BAD);
        Kit.due("ear(-1, 0)", x.ear(-1, 0), BAD);
        Kit.due("ear(0, 4)", x.ear(0, 4), BAD);
        Kit.due("ear(1, -1)", x.ear(1, -1), BAD);
        Kit.due("ear(0, 3)", x.ear(0, 3), 0);
        Kit.due("ear(0, 0)", x.ear(0, 0), 3);
        Kit.due("ear(1, 2)", x.ear(1, 2), 0);
        Kit.due("ear(1, 0)", x.ear(1, 0), 2);
        Kit.due("came(11)", x.came(11), BAD);
        Kit.due("came(-1)", x.came(-1), BAD);
        x.tick(4);
        x.turn(1, 3);
        x.turn(1, 2 * 544 + 5);
        x.turn(1, 2 * 544 + 6);
        x.carry(1, 544);
        Kit.due("a mark with a wrong bit", x.came(0), 0);
        x.carry(1, 31);
        Kit.due("LOCKED ahead of 32", x.came(0), 0);
        x.carry(1, 1);
        Kit.due("LOCKED", x.came(0), 1);
        x.carry(1, 511);
        Kit.due("frames", x.came(2), 0);
        x.carry(1, 1);
        Kit.due("frames", x.came(2), 1);
        x.carry(1, 32);
        Kit.due("LOCKED behind a wrong mark", x.came(0), 0);
        x.carry(1, 512 + 544);
        Kit.due("LOCKED", x.came(0), 1);
        Kit.due("frames", x.came(2), 2);
        earWithMisses();
        earWithOtherBits();
    }

    private static void earWithMisses() {
        CraftHouse x = new CraftHouse();
        x.ear(1, 1);
        x.tick(5);
        x.turn(1, 544);
        x.turn(1, 3 * 544);
        x.turn(1, 4 * 544);
        x.carry(1, 544 + 32);
        Kit.due("MISSES", x.came(1), 1);
        Kit.due("LOCKED", x.came(0), 1);
        x.carry(1, 512 + 32);
        Kit.due("MISSES", x.came(1), 0);
        x.carry(1, 512 + 32);
        Kit.due("MISSES", x.came(1), 1);
        x.carry(1, 512);
        Kit.due("frames", x.came(2), 4);
        x.carry(1, 32);
        Kit.due("LOCKED", x.came(0), 0);
        Kit.due("MISSES", x.came(1), 0);
        Kit.due("BAD frames", x.came(3), 0);
        // a bit that slips shows the mark one bit later: the 32 wrong ones are the latest then
        CraftHouse y = new CraftHouse();
        y.tick(2);
        Kit.inject(y, 1, Kit.hex("00"));
        y.lose(1, 7);
        y.tick(1);
        y.carry(1, 2 * 544 + 32);
        Kit.due("LOCKED", y.came(0), 0);
        y.carry(1, 1);
        Kit.due("LOCKED a bit later", y.came(0), 1);
        y.carry(1, 512);
        Kit.due("frames", y.came(2), 3);
        Kit.due("GAPS of IDLE frames", y.came(4), 0);
    }

    private static void earWithOtherBits() {
        for (int allowed = 0; allowed < 4; allowed++) {
            for (int others = 0; others < 5; others++) {
                CraftHouse x = new CraftHouse();
                x.ear(0, allowed);
                x.tick(1);
                for (int i = 0; i < others; i++) {
                    x.turn(1, 7 * i + 1);
                }
                x.carry(1, 544);
                Kit.due("E " + allowed + ", others " + others, x.came(2), others <= allowed ? 1 : 0);
            }
        }
    }

    private static void promise21Frames() {
        Kit.about("promise 21, frames");
        byte[] fine = Kit.bytes(1, 0, 0x2A, 77);
        CraftHouse x = new CraftHouse();
        Kit.inject(x, 1, Kit.frameDown(7, 0, 0, 0x7FE, IDLE, fine));
        x.carry(1, 64000);
        Kit.due("REPORTS", x.came(8), 1);
        Kit.due("V", x.came(9), 77);
        Kit.due("its bits", x.came(10), 0x15);
        int reports = 1;
        for (byte[] report : new byte[][] {Kit.bytes(2, 0, 0, 5), Kit.bytes(1, 1, 0, 5), Kit.bytes(1, 0, 1, 5),
            Kit.bytes(1, 0, 0x40, 5), Kit.bytes(1, 0, 0x80, 5)}) {
            Kit.inject(x, 1, Kit.frameDown(7, 0, 0, 0x7FE, IDLE, report));
            x.carry(1, 64000);
            Kit.due("REPORTS", x.came(8), reports);
            Kit.due("BAD", x.came(3), 0);
        }
        Kit.due("V", x.came(9), 77);
        int bad = 0;
        for (int i = 32; i < 544; i++) {
            Kit.inject(x, 1, Kit.frameDown(7, 0, 0, 0x7FE, IDLE, fine));
            x.turn(1, i);
            x.carry(1, 64000);
            bad++;
            Kit.due("BAD, bit " + i, x.came(3), bad);
        }
        Kit.due("REPORTS", x.came(8), 1);
        Kit.due("frames", x.came(2), 6 + 512);
        for (byte[] head : new byte[][] {Kit.hex("8AB1"), Kit.hex("4AB1"), Kit.hex("0BB1"), Kit.hex("0AA1"),
            Kit.hex("0AB0")}) {
            byte[] row = Kit.checked(Kit.join(head, Kit.hex("0000 1FFE"), IDLE, fine));
            injectWithNoise(x, row);
            bad++;
            Kit.due("BAD, other head", x.came(3), bad);
        }
        for (int first : new int[] {0x98, 0x58, 0x38, 0x08, 0x10}) {
            injectWithNoise(x, Kit.checked(Kit.join(Kit.hex("0ABF 0000"), Kit.bytes(first, 0), IDLE, fine)));
            bad++;
            Kit.due("BAD, other 18", x.came(3), bad);
        }
    }

    private static void injectWithNoise(CraftHouse x, byte[] frame) {
        byte[] noise = Kit.noise();
        for (int i = 0; i < frame.length; i++) {
            frame[i] ^= noise[i];
        }
        Kit.inject(x, 1, Kit.join(Kit.hex("1ACFFC1D"), frame));
        x.carry(1, 64000);
    }

    private static void promise21Packets() {
        Kit.about("promise 21, packets");
        CraftHouse x = new CraftHouse();
        byte[] packet = Kit.packetDown(5, 17, 2, 3, new byte[0]);
        byte[] row = Kit.join(packet, Kit.packetDown(6, 17, 2, 3, new byte[30]), Kit.packetDown(9, 17, 2, 4, new byte[14]));
        down(x, 0, 200, 0, Kit.filled(row, 52, 0));
        Kit.due("ARCHIVED", x.came(5), 1);
        // begun packets go on whatever FIRST is
        byte[] rest = java.util.Arrays.copyOfRange(row, 52, row.length);
        down(x, 0, 201, 40, Kit.filled(Kit.join(rest, Kit.hex("07FFC000001F")), 52, 0));
        Kit.due("ARCHIVED", x.came(5), 3);
        Kit.due("MISSING", x.came(7), 2);
        Kit.due("BAD packets", x.came(6), 0);
        Kit.due("GAPS", x.came(4), 0);
        // STORED has its own count, and its packets no MISSING
        down(x, 1, 17, 10, Kit.filled(Kit.join(new byte[10], packet), 52, 7));
        Kit.due("ARCHIVED", x.came(5), 4);
        Kit.due("GAPS", x.came(4), 0);
        Kit.due("MISSING", x.came(7), 2);
        // a gap: what was begun is gone, and FIRST counts
        down(x, 0, 203, 37, Kit.filled(Kit.join(new byte[37], packet), 52, 0));
        Kit.due("GAPS", x.came(4), 1);
        Kit.due("ARCHIVED", x.came(5), 5);
        Kit.due("MISSING", x.came(7), 2 + 16384 - 5);
        down(x, 0, 203, 52, Kit.filled(packet, 52, 0));
        Kit.due("GAPS", x.came(4), 2);
        Kit.due("FIRST above 51", x.came(5), 5);
        down(x, 0, 204, 0x7FF, Kit.filled(packet, 52, 0));
        Kit.due("FIRST 7FF", x.came(5), 5);
        down(x, 2, 9, 0, Kit.filled(packet, 52, 0));
        Kit.due("another channel", x.came(5), 5);
        down(x, 0, 205, 51, Kit.filled(new byte[0], 52, 8));
        down(x, 0, 206, 0, Kit.filled(java.util.Arrays.copyOfRange(packet, 1, 15), 52, 0));
        Kit.due("begun at 51", x.came(5), 6);
        badPackets();
    }

    private static void badPackets() {
        byte[] fine = Kit.packetDown(0, 17, 2, 3, Kit.hex("1122"));
        byte[][] heads = {Kit.hex("090C"), Kit.hex("080D"), Kit.hex("180C")};
        CraftHouse x = new CraftHouse();
        int bad = 0;
        for (byte[] head : heads) {
            byte[] row = java.util.Arrays.copyOf(fine, fine.length - 2);
            System.arraycopy(head, 0, row, 0, 2);
            alone(x, bad, Kit.checked(row));
            bad++;
            Kit.due("BAD packets, head", x.came(6), bad);
        }
        for (int[] other : new int[][] {{2, 0x80}, {2, 0x40}, {2, 0}, {6, 0x21}, {6, 0x10}}) {
            byte[] row = java.util.Arrays.copyOf(fine, fine.length - 2);
            row[other[0]] = (byte) other[1];
            alone(x, bad, Kit.checked(row));
            bad++;
            Kit.due("BAD packets, byte " + other[0], x.came(6), bad);
        }
        byte[] wrongCheck = fine.clone();
        wrongCheck[fine.length - 1] ^= 1;
        alone(x, bad, wrongCheck);
        bad++;
        Kit.due("BAD packets, CHECK", x.came(6), bad);
        byte[] tooShort = Kit.checked(Kit.hex("080C C000 0007 20 1102 000000"));
        alone(x, bad, tooShort);
        bad++;
        Kit.due("BAD packets, 14 bytes", x.came(6), bad);
        alone(x, bad, Kit.hex("07FF 0000 0003 FFFFFFFF"));
        Kit.due("BAD packets, an idle one", x.came(6), bad);
        Kit.due("ARCHIVED", x.came(5), 0);
        alone(x, bad + 1, fine);
        Kit.due("ARCHIVED", x.came(5), 1);
    }

    private static void promise21LongPackets() {
        Kit.about("promise 21, long packets");
        for (int n : new int[] {120, 121, 200, 201}) {
            CraftHouse x = new CraftHouse();
            byte[] row = Kit.join(Kit.packetDown(0, 17, 2, 3, new byte[n - 15]), Kit.packetDown(1, 17, 2, 3, new byte[0]));
            row = Kit.filled(Kit.join(row, Kit.hex("07FFC000"), Kit.two(52 * 5 - row.length - 7)), 52 * 5, 0);
            for (int i = 0; i < 5; i++) {
                down(x, 0, i, i == 0 ? 0 : 0x7FF, java.util.Arrays.copyOfRange(row, 52 * i, 52 * i + 52));
            }
            Kit.due(n + " bytes: ARCHIVED", x.came(5), n <= 120 ? 2 : n <= 200 ? 1 : 0);
            Kit.due(n + " bytes: BAD", x.came(6), n == 121 || n == 200 ? 1 : 0);
        }
    }

    private static void promises22And23() {
        Kit.about("promises 22, 23");
        CraftHouse x = new CraftHouse();
        for (int i = 0; i < 43; i++) {
            alone(x, i, Kit.packetDown(100 + i, 4, i, 0x80000000 + i, Kit.bytes(i, 255)));
        }
        byte[] other = Kit.packetDown(16383, 5, 6, 7, new byte[0]);
        down(x, 1, 0, 0, Kit.filled(Kit.join(other, Kit.hex("07FFC000001E")), 52, 0));
        int[] newest = {1, 5, 6, 7, 16383, 15};
        int[] next = {0, 4, 42, 0x80000000 + 42, 142, 17};
        int[] oldest = {0, 4, 4, 0x80000000 + 4, 104, 17};
        for (int k = 0; k < 6; k++) {
            Kit.due("archived(0, " + k + ")", x.archived(0, k), newest[k]);
            Kit.due("archived(1, " + k + ")", x.archived(1, k), next[k]);
            Kit.due("archived(39, " + k + ")", x.archived(39, k), oldest[k]);
        }
        Kit.due("ARCHIVED in all", x.came(5), 44);
        Kit.due("archived(40, 0)", x.archived(40, 0), BAD);
        Kit.due("archived(-1, 0)", x.archived(-1, 0), BAD);
        Kit.due("archived(0, 6)", x.archived(0, 6), BAD);
        Kit.due("archived(0, -1)", x.archived(0, -1), BAD);
        for (int k = 0; k < 15; k++) {
            Kit.due("archivedByte(0, " + k + ")", x.archivedByte(0, k), other[k] & 255);
        }
        Kit.due("archivedByte(0, 15)", x.archivedByte(0, 15), BAD);
        Kit.due("archivedByte(0, -1)", x.archivedByte(0, -1), BAD);
        Kit.due("archivedByte(40, 0)", x.archivedByte(40, 0), BAD);
        Kit.due("archivedByte(-1, 0)", x.archivedByte(-1, 0), BAD);
        Kit.due("archivedByte(39, 13)", x.archivedByte(39, 13), 4);
        Kit.due("archivedByte(39, 14)", x.archivedByte(39, 14), 255);
    }

    private static void dueShown(String when, CraftHouse x, int p, int there, int value, int tick) {
        Kit.due(when + ": shown(" + p + ", 0)", x.shown(p, 0), there);
        Kit.due(when + ": shown(" + p + ", 1)", x.shown(p, 1), value);
        Kit.due(when + ": shown(" + p + ", 2)", x.shown(p, 2), tick);
    }

    private static void promise24() {
        Kit.about("promise 24");
        CraftHouse x = new CraftHouse();
        byte[] data = Kit.join(Kit.bytes(3, 4), Kit.four(-9), Kit.bytes(24), Kit.four(1), Kit.bytes(23), Kit.four(77));
        alone(x, 0, Kit.packetDown(0, 20, 2, 10, data));
        dueShown("20, 2", x, 4, 1, -9, 10);
        dueShown("20, 2", x, 23, 1, 77, 10);
        dueShown("20, 2", x, 5, 0, 0, 0);
        alone(x, 1, Kit.packetDown(1, 3, 25, 9, Kit.join(Kit.bytes(0, 1, 4), Kit.four(8))));
        dueShown("an older TICK", x, 4, 1, -9, 10);
        alone(x, 2, Kit.packetDown(2, 3, 25, 10, Kit.join(Kit.bytes(0, 1, 4), Kit.four(8))));
        dueShown("the same TICK", x, 4, 1, 8, 10);
        down(x, 1, 2, 0, Kit.filled(Kit.packetDown(2, 3, 25, 12, Kit.join(Kit.bytes(0, 1, 4), Kit.four(9))), 52, 255));
        dueShown("of STORED", x, 4, 1, 9, 12);
        alone(x, 3, Kit.packetDown(3, 20, 2, 13, Kit.join(Kit.bytes(5, 0), Kit.four(3), Kit.bytes(1, 0, 0, 0))));
        dueShown("not all of it", x, 0, 1, 3, 13);
        dueShown("not all of it", x, 1, 0, 0, 0);
        alone(x, 4, Kit.packetDown(4, 20, 2, 13, Kit.join(Kit.bytes(1, 6), Kit.four(3), Kit.bytes(7), Kit.four(4))));
        dueShown("more than n", x, 6, 1, 3, 13);
        dueShown("more than n", x, 7, 0, 0, 0);
        alone(x, 4, Kit.packetDown(4, 20, 2, 13, new byte[0]));
        alone(x, 5, Kit.packetDown(5, 3, 25, 13, new byte[1]));
        alone(x, 6, Kit.packetDown(6, 20, 3, 20, Kit.join(Kit.bytes(1, 2), Kit.four(3))));
        dueShown("another subtype", x, 2, 0, 0, 0);
        Kit.due("shown(24, 0)", x.shown(24, 0), 0);
        Kit.due("shown(-1, 1)", x.shown(-1, 1), 0);
        Kit.due("shown(4, 3)", x.shown(4, 3), 0);
        Kit.due("shown(4, -1)", x.shown(4, -1), 0);
    }

    private static void statusTold() {
        Kit.about("promise 17, reports");
        CraftHouse x = new CraftHouse();
        for (int i = 0; i < 70; i++) {
            x.wipe();
            x.build(17, 1, 0);
        }
        x.wipe();
        int own = 0;
        int[][] told = {{1, 5, 0}, {2, 6, 9}, {3, 7, 0}, {4, 8, 9}, {7, 9, 0}, {8, 10, 9}};
        for (int[] each : told) {
            alone(x, own++, Kit.packetDown(own, 1, each[0], 1, Kit.join(Kit.two(0xC000 | 69), Kit.bytes(9))));
            Kit.due("1, " + each[0], x.became(69, 0), each[1]);
            Kit.due("1, " + each[0] + " code", x.became(69, 1), each[2]);
        }
        for (int subtype : new int[] {0, 5, 6, 9, 255}) {
            alone(x, own++, Kit.packetDown(own, 1, subtype, 1, Kit.join(Kit.two(68), Kit.bytes(9))));
            Kit.due("1, " + subtype, x.became(68, 0), 0);
        }
        for (int subtype : new int[] {2, 4, 8}) {
            alone(x, own++, Kit.packetDown(own, 1, subtype, 1, Kit.two(68)));
            Kit.due("1, " + subtype + " without a code", x.became(68, 0), 0);
        }
        alone(x, own++, Kit.packetDown(own, 1, 1, 1, Kit.bytes(0)));
        alone(x, own++, Kit.packetDown(own, 1, 1, 1, Kit.two(70)));
        alone(x, own++, Kit.packetDown(own, 1, 1, 1, Kit.two(5)));
        for (int i = 6; i < 69; i++) {
            Kit.due("became(" + i + ", 0)", x.became(i, 0), 0);
        }
        alone(x, own++, Kit.packetDown(own, 1, 1, 1, Kit.two(0x4000 | 6)));
        Kit.due("the oldest kept", x.became(6, 0), 5);
        Kit.due("BAD packets", x.came(6), 0);
    }
}
