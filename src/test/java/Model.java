/**
 * The board once more, in the plainest words of the document: signed sums instead of bit tricks, one
 * clock after the other, a list of codes. ModelTest compares the class with it.
 */
final class Model {
    private static final int S = 128;
    private static final int Z = 64;
    private static final int H = 16;
    private static final int P = 4;
    private static final int N = 2;
    private static final int C = 1;

    /** The numbers of the registers in reg: R's own, with F in the place of M. */
    private static final int RB = 0;
    private static final int RF = 6;
    private static final int RA = 7;

    private static final int STOPS = -1;

    /** A timer channel or a port; each uses what is its own. */
    private static final class Unit {
        boolean may;
        boolean requesting;
        boolean serving;
        int vector;

        int count;
        int constant;
        int prescaler;
        int limit = 16;
        boolean runs;
        boolean triggers;

        int mode;
        boolean ready;
        int latch;
        int received;
        int lines;
        int directions;
        int mask = 255;
        boolean all;
        boolean high;
        boolean held;

        /** 'c' a constant, 'd' directions, 'm' a mask, '-' nothing. */
        char due = '-';
    }

    private final int[] memory = new int[1024];
    private final int[] reg = new int[8];
    private final int[] second = new int[8];
    private int sp = 0xffff;
    private int pc;
    private int page;
    private boolean enable;
    private boolean justEnabled;
    private int mode = 1;
    private int state;
    private final int[] passed = new int[3];
    private int base;
    private final Unit[] units = {new Unit(), new Unit(), new Unit(), new Unit()};

    // The face.

    boolean poke(int address, int v) {
        if (address < 0 || address > 1023) {
            return false;
        }
        memory[address] = v & 255;
        return true;
    }

    boolean poke4(int address, int v) {
        if (address < 0 || address > 1020) {
            return false;
        }
        for (int i = 0; i < 4; i++) {
            memory[address + i] = v >>> 8 * (3 - i) & 255;
        }
        return true;
    }

    int peek(int address) {
        return address < 0 || address > 1023 ? -1 : memory[address];
    }

    int register(int which) {
        if (which < 0 || which > 12) {
            return -1;
        }
        if (which < 8) {
            return facePair(which < 4 ? reg : second, which % 4);
        }
        return new int[] {sp, pc, page, enable ? 1 : 0, mode}[which - 8];
    }

    boolean set(int which, int v) {
        if (which < 0 || which > 10) {
            return false;
        }
        int word = v & 0xffff;
        switch (which) {
            case 8 -> sp = word;
            case 9 -> pc = word;
            case 10 -> page = v & 255;
            default -> putFacePair(which < 4 ? reg : second, which % 4, word);
        }
        return true;
    }

    int state() {
        return state;
    }

    boolean trigger(int k) {
        if (k != 0 && k != 1) {
            return false;
        }
        triggerTo(k);
        return true;
    }

    boolean strobe(int p, int v) {
        if (p != 0 && p != 1) {
            return false;
        }
        Unit port = units[2 + p];
        if (port.mode == 3 || !port.ready) {
            return false;
        }
        if (port.mode == 1) {
            port.received = v & 255;
        }
        port.ready = false;
        port.requesting |= port.may;
        return true;
    }

    boolean lines(int p, int v) {
        if (p != 0 && p != 1) {
            return false;
        }
        units[2 + p].lines = v & 255;
        look(units[2 + p]);
        return true;
    }

    int device(int d, int what) {
        if (d < 0 || d > 3 || what < 0 || what > 5) {
            return -1;
        }
        Unit u = units[d];
        if (what < 3) {
            return new int[] {u.requesting ? 1 : 0, u.serving ? 1 : 0, vectorOf(d)}[what];
        }
        return d < 2
                ? new int[] {u.count, u.runs ? 1 : 0, u.prescaler}[what - 3]
                : new int[] {u.mode, u.ready ? 1 : 0, u.latch}[what - 3];
    }

    int passed(int what) {
        return what < 0 || what > 2 ? -1 : passed[what];
    }

    int run(int n) {
        int before = passed[0];
        while (n <= 5000 && passed[0] - before < n && state != 2) {
            int first = pc;
            justEnabled = false;
            int clocks = state == 1 ? 4 : instruction(fetch());
            if (clocks == STOPS) {
                pc = first;
                state = 2;
            } else {
                passed[1]++;
                pass(clocks);
                attend();
            }
        }
        return passed[0] - before;
    }

    // Attention and time.

    private void attend() {
        if (!enable || justEnabled) {
            return;
        }
        for (int d = 0; d < 4 && !units[d].serving; d++) {
            if (units[d].requesting) {
                acknowledge(d);
                return;
            }
        }
    }

    private void acknowledge(int d) {
        units[d].requesting = false;
        units[d].serving = true;
        enable = false;
        state = 0;
        passed[2]++;
        push(pc);
        if (mode == 1) {
            pc = 0x38;
            pass(13);
        } else {
            pc = word(page * 256 + vectorOf(d));
            pass(19);
        }
    }

    private int vectorOf(int d) {
        return d < 2 ? base + 2 * d : units[d].vector;
    }

    private void pass(int clocks) {
        passed[0] += clocks;
        for (int k = 0; k < 2; k++) {
            for (int i = 0; i < clocks; i++) {
                clockTo(k);
            }
        }
    }

    private void clockTo(int k) {
        Unit u = units[k];
        if (u.runs && !u.triggers) {
            u.prescaler++;
            if (u.prescaler >= u.limit) {
                u.prescaler = 0;
                fall(k);
            }
        }
    }

    private void triggerTo(int k) {
        if (units[k].runs && units[k].triggers) {
            fall(k);
        }
    }

    private void fall(int k) {
        Unit u = units[k];
        u.count--;
        if (u.count == 0) {
            u.count = u.constant;
            u.requesting |= u.may;
            if (k == 0) {
                triggerTo(1);
            }
        }
    }

    // Ports of IN and OUT.

    private int in(int n) {
        if (n < 2) {
            return units[n].count % 256;
        }
        if (n != 2 && n != 4) {
            return 255;
        }
        Unit port = units[1 + n / 2];
        if (port.mode == 0) {
            return port.latch;
        }
        if (port.mode == 1) {
            port.ready = true;
            return port.received;
        }
        int v = 0;
        for (int bit = 1; bit < 256; bit *= 2) {
            v += (port.directions & bit) != 0 ? port.lines & bit : port.latch & bit;
        }
        return v;
    }

    private void out(int n, int v) {
        if (n < 2) {
            outToChannel(units[n], v);
        } else if (n == 2 || n == 4) {
            Unit port = units[1 + n / 2];
            port.latch = v;
            port.ready |= port.mode == 0;
        } else if (n == 3 || n == 5) {
            Unit port = units[1 + n / 2];
            outToControl(port, v);
            look(port);
        }
    }

    private void outToChannel(Unit u, int v) {
        if (u.due == 'c') {
            u.constant = v == 0 ? 256 : v;
            u.count = u.constant;
            u.prescaler = 0;
            u.runs = true;
            u.due = '-';
        } else if (v % 2 == 0) {
            base = v / 8 * 8;
        } else {
            u.may = v >= 128;
            u.requesting &= u.may;
            u.triggers = (v & 64) != 0;
            u.limit = (v & 32) != 0 ? 256 : 16;
            u.due = (v & 4) != 0 ? 'c' : '-';
            u.runs &= (v & 2) == 0;
            u.prescaler = 0;
        }
    }

    private static void outToControl(Unit port, int v) {
        if (port.due == 'd') {
            port.directions = v;
            port.due = '-';
        } else if (port.due == 'm') {
            port.mask = v;
            port.due = '-';
        } else if (v % 2 == 0) {
            port.vector = v;
        } else if (v % 16 == 15) {
            port.mode = new int[] {0, 1, 3, 3}[v / 64];
            port.ready = false;
            port.due = port.mode == 3 ? 'd' : '-';
        } else if (v % 16 == 7) {
            port.may = v >= 128;
            port.all = (v & 64) != 0;
            port.high = (v & 32) != 0;
            if ((v & 16) != 0) {
                port.due = 'm';
                port.requesting = false;
            }
        } else if (v % 16 == 3) {
            port.may = v >= 128;
        }
    }

    private static void look(Unit port) {
        int watched = 0;
        int fitting = 0;
        for (int bit = 1; bit < 256; bit *= 2) {
            if ((port.mask & bit) == 0 && (port.directions & bit) != 0) {
                watched++;
                fitting += ((port.lines & bit) != 0) == port.high ? 1 : 0;
            }
        }
        boolean holds = port.mode == 3 && watched > 0 && (port.all ? fitting == watched : fitting > 0);
        port.requesting |= holds && !port.held && port.may;
        port.held = holds;
    }

    // Memory, registers and flags.

    private int at(int address) {
        return memory[Math.floorMod(address, 1024)];
    }

    private void put(int address, int v) {
        memory[Math.floorMod(address, 1024)] = v & 255;
    }

    private int word(int address) {
        return at(address) + 256 * at(address + 1);
    }

    private void putWord(int address, int v) {
        put(address, v);
        put(address + 1, v >> 8);
    }

    private int fetch() {
        int v = at(pc);
        pc = pc + 1 & 0xffff;
        return v;
    }

    private int fetchWord() {
        int low = fetch();
        return low + 256 * fetch();
    }

    private void push(int v) {
        sp = sp - 2 & 0xffff;
        putWord(sp, v);
    }

    private int pop() {
        int v = word(sp);
        sp = sp + 2 & 0xffff;
        return v;
    }

    private static int facePair(int[] set, int which) {
        return which == 0 ? 256 * set[RA] + set[RF] : 256 * set[2 * which - 2] + set[2 * which - 1];
    }

    private static void putFacePair(int[] set, int which, int v) {
        if (which == 0) {
            set[RA] = v >> 8 & 255;
            set[RF] = v & (S | Z | H | P | N | C);
        } else {
            set[2 * which - 2] = v >> 8 & 255;
            set[2 * which - 1] = v & 255;
        }
    }

    private int hl() {
        return facePair(reg, 3);
    }

    private int wide(int rr) {
        return rr == 3 ? sp : facePair(reg, rr + 1);
    }

    private void putWide(int rr, int v) {
        if (rr == 3) {
            sp = v & 0xffff;
        } else {
            putFacePair(reg, rr + 1, v);
        }
    }

    private int r(int which) {
        return which == 6 ? at(hl()) : reg[which];
    }

    private void putR(int which, int v) {
        if (which == 6) {
            put(hl(), v);
        } else {
            reg[which] = v & 255;
        }
    }

    private int carry() {
        return reg[RF] & C;
    }

    private void flag(int bit, boolean on) {
        reg[RF] = on ? reg[RF] | bit : reg[RF] & ~bit;
    }

    private boolean condition(int cc) {
        boolean isSet = (reg[RF] & new int[] {Z, C, P, S}[cc / 2]) != 0;
        return isSet == (cc % 2 == 1);
    }

    private static int signed(int v, int size) {
        return v >= size / 2 ? v - size : v;
    }

    private static boolean even(int v) {
        int ones = 0;
        for (int i = 0; i < 8; i++) {
            ones += v >> i & 1;
        }
        return ones % 2 == 0;
    }

    /** Sets all flags of a + b (sign 1) or a - b (sign -1) in numbers below size. */
    private int sum(int a, int b, int more, int sign, int size) {
        int exact = a + sign * (b + more);
        int result = Math.floorMod(exact, size);
        int part = size / 16;
        int exactPart = a % part + sign * (b % part + more);
        int exactSigned = signed(a, size) + sign * (signed(b, size) + more);
        flag(S, result >= size / 2);
        flag(Z, result == 0);
        flag(H, exactPart < 0 || exactPart >= part);
        flag(P, exactSigned < -size / 2 || exactSigned >= size / 2);
        flag(N, sign < 0);
        flag(C, exact < 0 || exact >= size);
        return result;
    }

    private void operate(int o, int q) {
        int a = reg[RA];
        int result = switch (o) {
            case 0 -> sum(a, q, 0, 1, 256);
            case 1 -> sum(a, q, carry(), 1, 256);
            case 3 -> sum(a, q, carry(), -1, 256);
            case 4 -> logic(a & q, true);
            case 5 -> logic(a ^ q, false);
            case 6 -> logic(a | q, false);
            default -> sum(a, q, 0, -1, 256);
        };
        reg[RA] = o == 7 ? a : result;
    }

    private int logic(int result, boolean half) {
        signZeroParity(result);
        flag(H, half);
        flag(N, false);
        flag(C, false);
        return result;
    }

    private void signZeroParity(int v) {
        flag(S, v >= 128);
        flag(Z, v == 0);
        flag(P, even(v));
    }

    private void step(int which, int sign) {
        int kept = carry();
        putR(which, sum(r(which), 1, 0, sign, 256));
        flag(C, kept == 1);
    }

    /** RLC RRC RL RR SLA SRA, none, SRL; sets C, H and N. */
    private int turned(int o, int v) {
        boolean left = o == 0 || o == 2 || o == 4;
        int out = left ? v / 128 : v % 2;
        int in = new int[] {out, out, carry(), carry(), 0, v / 128, 0, 0}[o];
        flag(C, out == 1);
        flag(H, false);
        flag(N, false);
        return left ? v * 2 % 256 + in : v / 2 + 128 * in;
    }

    private void exchange(int from, int to) {
        for (int i = from; i <= to; i++) {
            int kept = reg[i];
            reg[i] = second[i];
            second[i] = kept;
        }
    }

    // Instructions; each answers its clocks, or STOPS.

    private int instruction(int code) {
        int y = code / 8 % 8;
        int z = code % 8;
        if (code == 0x76) {
            state = 1;
            return 4;
        }
        if (code >= 0x40 && code < 0x80) {
            putR(y, r(z));
            return y == 6 || z == 6 ? 7 : 4;
        }
        if (code >= 0x80 && code < 0xc0) {
            operate(y, r(z));
            return z == 6 ? 7 : 4;
        }
        return code < 0x40 ? below40(code, y, z) : fromC0(code, y, z);
    }

    private int below40(int code, int y, int z) {
        switch (z) {
            case 4:
                step(y, 1);
                return y == 6 ? 11 : 4;
            case 5:
                step(y, -1);
                return y == 6 ? 11 : 4;
            case 6:
                putR(y, fetch());
                return y == 6 ? 10 : 7;
            case 3:
                putWide(y / 2, wide(y / 2) + (y % 2 == 0 ? 1 : -1));
                return 6;
            case 1:
                return y % 2 == 0 ? loadWide(y / 2) : addWide(y / 2);
            case 0:
                return leap(code, y);
            default:
                return z == 2 ? transfer(code) : onA(code);
        }
    }

    private int loadWide(int rr) {
        putWide(rr, fetchWord());
        return 10;
    }

    private int addWide(int rr) {
        int kept = reg[RF] & (S | Z | P);
        putWide(2, sum(hl(), wide(rr), 0, 1, 0x10000));
        reg[RF] = reg[RF] & ~(S | Z | P) | kept;
        return 11;
    }

    private int leap(int code, int y) {
        if (code == 0x00) {
            return 4;
        }
        if (code == 0x08) {
            exchange(RF, RA);
            return 4;
        }
        int e = signed(fetch(), 256);
        boolean goes = code == 0x18 || code >= 0x20 && condition(y - 4);
        if (code == 0x10) {
            reg[RB] = Math.floorMod(reg[RB] - 1, 256);
            goes = reg[RB] != 0;
        }
        if (goes) {
            pc = pc + e & 0xffff;
        }
        return (goes ? 12 : 7) + (code == 0x10 ? 1 : 0);
    }

    private int transfer(int code) {
        switch (code) {
            case 0x02 -> put(wide(0), reg[RA]);
            case 0x12 -> put(wide(1), reg[RA]);
            case 0x0a -> reg[RA] = at(wide(0));
            case 0x1a -> reg[RA] = at(wide(1));
            case 0x22 -> putWord(fetchWord(), hl());
            case 0x2a -> putWide(2, word(fetchWord()));
            case 0x32 -> put(fetchWord(), reg[RA]);
            default -> reg[RA] = at(fetchWord());
        }
        return code < 0x20 ? 7 : code < 0x30 ? 16 : 13;
    }

    private int onA(int code) {
        switch (code) {
            case 0x07, 0x0f, 0x17, 0x1f -> reg[RA] = turned(code / 8, reg[RA]);
            case 0x2f -> {
                reg[RA] = 255 - reg[RA];
                flag(H, true);
                flag(N, true);
            }
            case 0x37 -> {
                flag(C, true);
                flag(H, false);
                flag(N, false);
            }
            case 0x3f -> {
                flag(H, carry() == 1);
                flag(C, carry() == 0);
                flag(N, false);
            }
            default -> {
                return STOPS;
            }
        }
        return 4;
    }

    private int fromC0(int code, int y, int z) {
        switch (z) {
            case 0:
                return condition(y) ? goTo(pop(), 11) : 5;
            case 2:
                int to = fetchWord();
                return goTo(condition(y) ? to : pc, 10);
            case 4:
                return call(fetchWord(), condition(y));
            case 6:
                operate(y, fetch());
                return 7;
            case 7:
                push(pc);
                return goTo(8 * y, 11);
            case 1:
                if (y % 2 == 0) {
                    putFacePair(reg, (y / 2 + 1) % 4, pop());
                    return 10;
                }
                return alone(code);
            case 5:
                if (y % 2 == 0) {
                    push(facePair(reg, (y / 2 + 1) % 4));
                    return 11;
                }
                return alone(code);
            default:
                return alone(code);
        }
    }

    private int goTo(int address, int clocks) {
        pc = address;
        return clocks;
    }

    private int call(int address, boolean really) {
        if (!really) {
            return 10;
        }
        push(pc);
        return goTo(address, 17);
    }

    private int alone(int code) {
        switch (code) {
            case 0xc3:
                return goTo(fetchWord(), 10);
            case 0xc9:
                return goTo(pop(), 10);
            case 0xe9:
                return goTo(hl(), 4);
            case 0xcd:
                return call(fetchWord(), true);
            case 0xcb:
                return behindCb(fetch());
            case 0xed:
                return behindEd(fetch());
            case 0xd3:
                out(fetch(), reg[RA]);
                return 11;
            case 0xdb:
                reg[RA] = in(fetch());
                return 11;
            case 0xd9:
                exchange(RB, RF - 1);
                return 4;
            case 0xf9:
                sp = hl();
                return 6;
            case 0xeb:
                int hl = hl();
                putWide(2, wide(1));
                putWide(1, hl);
                return 4;
            case 0xe3:
                int top = word(sp);
                putWord(sp, hl());
                putWide(2, top);
                return 19;
            case 0xf3, 0xfb:
                enable = code == 0xfb;
                justEnabled = enable;
                return 4;
            default:
                return STOPS;
        }
    }

    private int behindCb(int code) {
        int b = code / 8 % 8;
        int q = code % 8;
        int power = 1 << b;
        int v = r(q);
        boolean on = v / power % 2 == 1;
        if (code < 0x40) {
            if (b == 6) {
                return STOPS;
            }
            putR(q, turned(b, v));
            signZeroParity(r(q));
        } else if (code < 0x80) {
            flag(Z, !on);
            flag(P, !on);
            flag(S, on && b == 7);
            flag(H, true);
            flag(N, false);
            return q == 6 ? 12 : 8;
        } else if (code < 0xc0) {
            putR(q, on ? v - power : v);
        } else {
            putR(q, on ? v : v + power);
        }
        return q == 6 ? 15 : 8;
    }

    private int behindEd(int code) {
        switch (code) {
            case 0x42, 0x52, 0x62, 0x72, 0x4a, 0x5a, 0x6a, 0x7a:
                putWide(2, sum(hl(), wide(code / 16 - 4), carry(), code % 16 == 2 ? -1 : 1, 0x10000));
                return 15;
            case 0x44:
                reg[RA] = sum(0, reg[RA], 0, -1, 256);
                return 8;
            case 0x47:
                page = reg[RA];
                return 9;
            case 0x56, 0x5e:
                mode = code == 0x56 ? 1 : 2;
                return 8;
            case 0xa0, 0xb0:
                return copy(code == 0xb0);
            case 0x4d:
                pc = pop();
                for (Unit u : units) {
                    if (u.serving) {
                        u.serving = false;
                        break;
                    }
                }
                return 14;
            default:
                return STOPS;
        }
    }

    private int copy(boolean again) {
        put(wide(1), at(hl()));
        for (int rr = 0; rr < 3; rr++) {
            putWide(rr, wide(rr) + (rr == 0 ? -1 : 1));
        }
        flag(H, false);
        flag(N, false);
        flag(P, wide(0) != 0);
        if (again && wide(0) != 0) {
            pc = pc - 2 & 0xffff;
            return 21;
        }
        return 16;
    }
}
