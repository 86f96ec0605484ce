/**
 * A small board around an eight-bit processor: memory, a timer chip with two channels and a
 * parallel chip with two ports, which ask for attention in a chain.
 */
public final class ChainBoard {
    public static final int NONE = -1;

    private static final int MOST_CLOCKS = 5000;

    private final Memory memory;
    private final Chain chain;
    private final Processor processor;

    public ChainBoard() {
        memory = new Memory();
        chain = new Chain();
        processor = new Processor(memory, chain);
    }

    public boolean poke(int address, int v) {
        if (address < 0 || address >= Memory.SIZE) {
            return false;
        }
        memory.putByte(address, v);
        return true;
    }

    public boolean poke4(int address, int v) {
        if (address < 0 || address > Memory.SIZE - 4) {
            return false;
        }
        for (int i = 0; i < 4; i++) {
            memory.putByte(address + i, v >> (24 - 8 * i));
        }
        return true;
    }

    public int peek(int address) {
        if (address < 0 || address >= Memory.SIZE) {
            return NONE;
        }
        return memory.byteAt(address);
    }

    public int register(int which) {
        switch (which) {
            case 11:
                return processor.enabled ? 1 : 0;
            case 12:
                return processor.mode;
            default:
                return processor.registers.numbered(which);
        }
    }

    public boolean set(int which, int v) {
        return processor.registers.putNumbered(which, v);
    }

    public int run(int n) {
        if (n < 0 || n > MOST_CLOCKS) {
            return 0;
        }
        int clocks = 0;
        // An instruction takes a clock at least, or stops the processor: n rounds are enough.
        for (int i = 0; i < n && clocks < n && !processor.stopped; i++) {
            clocks += processor.carryOut();
            clocks += processor.attend();
        }
        return clocks;
    }

    public int state() {
        if (processor.stopped) {
            return 2;
        }
        return processor.halted ? 1 : 0;
    }

    public boolean trigger(int k) {
        if (k < 0 || k > 1) {
            return false;
        }
        chain.pulse(k);
        return true;
    }

    public boolean strobe(int p, int v) {
        Port port = chain.portOf(p);
        return port != null && port.takeStrobe(v);
    }

    public boolean lines(int p, int v) {
        Port port = chain.portOf(p);
        if (port == null) {
            return false;
        }
        port.takeLevels(v);
        return true;
    }

    public int device(int d, int what) {
        if (d < 0 || d >= chain.order.length) {
            return NONE;
        }
        Device device = chain.order[d];
        switch (what) {
            case 0:
                return device.requesting ? 1 : 0;
            case 1:
                return device.inService ? 1 : 0;
            case 2:
                return device.vector;
            default:
                return device.detail(what);
        }
    }

    public int passed(int what) {
        switch (what) {
            case 0:
                return processor.clocks;
            case 1:
                return processor.instructions;
            case 2:
                return processor.acknowledgements;
            default:
                return NONE;
        }
    }

    /** The bytes of the board; every address counts modulo their number. */
    private static final class Memory {
        static final int SIZE = 1024;

        private final int[] cells = new int[SIZE];

        int byteAt(int address) {
            return cells[address & (SIZE - 1)];
        }

        void putByte(int address, int v) {
            cells[address & (SIZE - 1)] = v & 255;
        }

        int wordAt(int address) {
            return byteAt(address) | byteAt(address + 1) << 8;
        }

        void putWord(int address, int v) {
            putByte(address, v);
            putByte(address + 1, v >> 8);
        }
    }

    /**
     * One set of the registers, in the order in which instructions name them: B C D E H L, then F
     * in the place of M (which is no register), then A.
     */
    private static final class Bank {
        static final int B = 0;
        static final int F = 6;
        static final int A = 7;

        static final int BC = 0;
        static final int DE = 1;
        static final int HL = 2;
        static final int AF = 3;

        final int[] bytes = new int[8];

        int pair(int p) {
            if (p == AF) {
                return bytes[A] << 8 | bytes[F];
            }
            int high = 2 * (p & 3);
            return bytes[high] << 8 | bytes[high + 1];
        }

        void putPair(int p, int v) {
            int upper = v >> 8 & 255;
            int lower = v & 255;
            if (p == AF) {
                bytes[A] = upper;
                bytes[F] = lower & Flags.ALL;
                return;
            }
            int high = 2 * (p & 3);
            bytes[high] = upper;
            bytes[high + 1] = lower;
        }
    }

    /** All registers, with the numbers that the face gives them. */
    private static final class Registers {
        final Bank now = new Bank();
        final Bank second = new Bank();
        int sp = 0xffff;
        int pc = 0;
        int page = 0;

        void exchange(int p) {
            int kept = now.pair(p);
            now.putPair(p, second.pair(p));
            second.putPair(p, kept);
        }

        int numbered(int which) {
            switch (which) {
                case 0: case 1: case 2: case 3:
                    return now.pair(facePair(which));
                case 4: case 5: case 6: case 7:
                    return second.pair(facePair(which));
                case 8:
                    return sp;
                case 9:
                    return pc;
                case 10:
                    return page;
                default:
                    return NONE;
            }
        }

        boolean putNumbered(int which, int v) {
            switch (which) {
                case 0: case 1: case 2: case 3:
                    now.putPair(facePair(which), v);
                    return true;
                case 4: case 5: case 6: case 7:
                    second.putPair(facePair(which), v);
                    return true;
                case 8:
                    sp = v & 0xffff;
                    return true;
                case 9:
                    pc = v & 0xffff;
                    return true;
                case 10:
                    page = v & 255;
                    return true;
                default:
                    return false;
            }
        }

        /** The face counts AF first, instructions count it last. */
        private static int facePair(int which) {
            return (which + Bank.AF) & 3;
        }
    }

    /** The bits of F, and the operations that answer a result * 256 + the flags it gives. */
    private static final class Flags {
        static final int S = 128;
        static final int Z = 64;
        static final int H = 16;
        static final int P = 4;
        static final int N = 2;
        static final int C = 1;
        static final int ALL = S | Z | H | P | N | C;

        static int add(int a, int b, int carry) {
            int sum = a + b + carry;
            int result = sum & 255;
            // Where the sum's bits differ from those of a ^ b, a carry came in.
            int half = (a ^ b ^ sum) & H;
            int overflow = ((a ^ sum) & (b ^ sum) & 128) >> 5;
            return result << 8 | signAndZero(result) | half | overflow | sum >> 8;
        }

        static int subtract(int a, int b, int borrow) {
            int difference = a - b - borrow;
            int result = difference & 255;
            int half = (a ^ b ^ difference) & H;
            int overflow = ((a ^ b) & (a ^ difference) & 128) >> 5;
            return result << 8 | signAndZero(result) | half | overflow | N | difference >> 8 & C;
        }

        static int addWords(int a, int b, int carry) {
            int sum = a + b + carry;
            int result = sum & 0xffff;
            int half = (a ^ b ^ sum) >> 8 & H;
            int overflow = ((a ^ sum) & (b ^ sum) & 0x8000) >> 13;
            return result << 8 | wordSignAndZero(result) | half | overflow | sum >> 16;
        }

        static int subtractWords(int a, int b, int borrow) {
            int difference = a - b - borrow;
            int result = difference & 0xffff;
            int half = (a ^ b ^ difference) >> 8 & H;
            int overflow = ((a ^ b) & (a ^ difference) & 0x8000) >> 13;
            int carry = difference >> 16 & C;
            return result << 8 | wordSignAndZero(result) | half | overflow | N | carry;
        }

        /** ADD ADC SUB SBC AND XOR OR CP for 0 .. 7; CP answers the result too. */
        static int operate(int operation, int a, int b, int carry) {
            switch (operation) {
                case 0:
                    return add(a, b, 0);
                case 1:
                    return add(a, b, carry);
                case 3:
                    return subtract(a, b, carry);
                case 4:
                    return withParity(a & b) | H;
                case 5:
                    return withParity(a ^ b);
                case 6:
                    return withParity(a | b);
                default:
                    return subtract(a, b, 0);
            }
        }

        /** RLC RRC RL RR SLA SRA, none, SRL for 0 .. 7. */
        static int shift(int operation, int v, int carry) {
            // The even ones go to the left; none is there at 6.
            boolean left = (operation & 1) == 0;
            int out = left ? v >> 7 : v & 1;
            int in;
            switch (operation) {
                case 0: case 1:
                    in = out;
                    break;
                case 2: case 3:
                    in = carry;
                    break;
                case 5:
                    in = v >> 7;
                    break;
                default:
                    in = 0;
            }
            int result = left ? (v << 1 & 255) | in : v >> 1 | in << 7;
            return withParity(result) | out;
        }

        private static int withParity(int result) {
            int parity = (Integer.bitCount(result) & 1) == 0 ? P : 0;
            return result << 8 | signAndZero(result) | parity;
        }

        private static int signAndZero(int result) {
            return (result & S) | (result == 0 ? Z : 0);
        }

        private static int wordSignAndZero(int result) {
            return (result >> 8 & S) | (result == 0 ? Z : 0);
        }
    }

    /** What the chain knows of each of its members. */
    private abstract static class Device {
        boolean mayRequest = false;
        boolean requesting = false;
        boolean inService = false;
        int vector = 0;

        /** What the face tells of this kind of device alone; NONE when there is no such. */
        abstract int detail(int what);

        void request() {
            if (mayRequest) {
                requesting = true;
            }
        }
    }

    /** A channel of the timer chip. */
    private static final class Channel extends Device {
        private int count = 0;
        private int constant = 0;
        private int prescaler = 0;
        private boolean running = false;
        private boolean countsTriggers = false;
        private boolean slow = false;
        private boolean constantDue = false;

        Channel(int firstVector) {
            vector = firstVector;
        }

        int detail(int what) {
            switch (what) {
                case 3:
                    return count;
                case 4:
                    return running ? 1 : 0;
                case 5:
                    return prescaler;
                default:
                    return NONE;
            }
        }

        /** Answers whether the byte was for this channel; if not, it is the base of the vectors. */
        boolean takeByte(int v) {
            if (constantDue) {
                takeConstant(v);
                return true;
            }
            if ((v & 1) == 0) {
                return false;
            }
            takeControl(v);
            return true;
        }

        private void takeConstant(int v) {
            constant = v == 0 ? 256 : v;
            count = constant;
            prescaler = 0;
            running = true;
            constantDue = false;
        }

        private void takeControl(int v) {
            mayRequest = (v & 128) != 0;
            if (!mayRequest) {
                requesting = false;
            }
            countsTriggers = (v & 64) != 0;
            slow = (v & 32) != 0;
            constantDue = (v & 4) != 0;
            if ((v & 2) != 0) {
                running = false;
            }
            prescaler = 0;
        }

        /** Answers how often the count came to 0. */
        int takeClocks(int clocks) {
            if (!running || countsTriggers) {
                return 0;
            }
            int grown = prescaler + clocks;
            int bits = slow ? 8 : 4;
            int falls = grown >> bits;
            prescaler = grown & ((1 << bits) - 1);
            int zeros = 0;
            for (int i = 0; i < falls; i++) {
                if (fall()) {
                    zeros++;
                }
            }
            return zeros;
        }

        /** Answers whether the count came to 0. */
        boolean takeTrigger() {
            return running && countsTriggers && fall();
        }

        private boolean fall() {
            count--;
            if (count > 0) {
                return false;
            }
            count = constant;
            request();
            return true;
        }
    }

    /** A port of the parallel chip. */
    private static final class Port extends Device {
        private static final int OUTPUT = 0;
        private static final int INPUT = 1;
        private static final int BITS = 3;

        private int mode = OUTPUT;
        private boolean ready = false;
        private int latch = 0;
        private int received = 0;
        private int levels = 0;
        private int directions = 0;
        private int mask = 255;
        private boolean all = false;
        private boolean high = false;
        private boolean directionsDue = false;
        private boolean maskDue = false;
        private boolean held = false;

        int detail(int what) {
            switch (what) {
                case 3:
                    return mode;
                case 4:
                    return ready ? 1 : 0;
                case 5:
                    return latch;
                default:
                    return NONE;
            }
        }

        void takeData(int v) {
            latch = v;
            if (mode == OUTPUT) {
                ready = true;
            }
        }

        int giveData() {
            switch (mode) {
                case OUTPUT:
                    return latch;
                case INPUT:
                    ready = true;
                    return received;
                default:
                    return (levels & directions) | (latch & ~directions);
            }
        }

        void takeControl(int v) {
            if (directionsDue) {
                directions = v;
                directionsDue = false;
            } else if (maskDue) {
                mask = v;
                maskDue = false;
            } else if ((v & 1) == 0) {
                vector = v;
            } else {
                takeCommand(v);
            }
            look();
        }

        private void takeCommand(int v) {
            switch (v & 15) {
                case 15:
                    mode = v >> 6 == 2 ? BITS : v >> 6;
                    ready = false;
                    directionsDue = mode == BITS;
                    break;
                case 7:
                    mayRequest = (v & 128) != 0;
                    all = (v & 64) != 0;
                    high = (v & 32) != 0;
                    if ((v & 16) != 0) {
                        maskDue = true;
                        requesting = false;
                    }
                    break;
                case 3:
                    mayRequest = (v & 128) != 0;
                    break;
                default:
                    break;
            }
        }

        void takeLevels(int v) {
            levels = v & 255;
            look();
        }

        boolean takeStrobe(int v) {
            if (!ready || mode == BITS) {
                return false;
            }
            if (mode == INPUT) {
                received = v & 255;
            }
            ready = false;
            request();
            return true;
        }

        /** Only a condition that begins to hold makes the port request. */
        private void look() {
            boolean before = held;
            held = holds();
            if (held && !before) {
                request();
            }
        }

        private boolean holds() {
            int watched = directions & ~mask;
            if (mode != BITS || watched == 0) {
                return false;
            }
            int hits = (high ? levels : ~levels) & watched;
            return all ? hits == watched : hits != 0;
        }
    }

    /** The devices in the order in which they get attention, and the ports they are reached by. */
    private static final class Chain {
        final Device[] order;
        private final Channel channel0;
        private final Channel channel1;
        private final Port portA;
        private final Port portB;

        Chain() {
            channel0 = new Channel(0);
            channel1 = new Channel(2);
            portA = new Port();
            portB = new Port();
            order = new Device[] {channel0, channel1, portA, portB};
        }

        Port portOf(int p) {
            if (p == 0) {
                return portA;
            }
            return p == 1 ? portB : null;
        }

        void takeClocks(int clocks) {
            int zeros = channel0.takeClocks(clocks);
            for (int i = 0; i < zeros; i++) {
                channel1.takeTrigger();
            }
            channel1.takeClocks(clocks);
        }

        void pulse(int k) {
            if (k == 1 || channel0.takeTrigger()) {
                channel1.takeTrigger();
            }
        }

        int input(int port) {
            switch (port) {
                case 0:
                    return channel0.count & 255;
                case 1:
                    return channel1.count & 255;
                case 2:
                    return portA.giveData();
                case 4:
                    return portB.giveData();
                default:
                    return 255;
            }
        }

        void output(int port, int v) {
            switch (port) {
                case 0:
                    toChannel(channel0, v);
                    break;
                case 1:
                    toChannel(channel1, v);
                    break;
                case 2:
                    portA.takeData(v);
                    break;
                case 3:
                    portA.takeControl(v);
                    break;
                case 4:
                    portB.takeData(v);
                    break;
                case 5:
                    portB.takeControl(v);
                    break;
                default:
                    break;
            }
        }

        private void toChannel(Channel channel, int v) {
            if (!channel.takeByte(v)) {
                channel0.vector = v & 248;
                channel1.vector = (v & 248) + 2;
            }
        }

        /** The device that is to be acknowledged, null when there is none. */
        Device firstToAttend() {
            for (int i = 0; i < order.length; i++) {
                Device device = order[i];
                if (device.inService) {
                    return null;
                }
                if (device.requesting) {
                    return device;
                }
            }
            return null;
        }

        void endService() {
            for (int i = 0; i < order.length; i++) {
                if (order[i].inService) {
                    order[i].inService = false;
                    return;
                }
            }
        }
    }

    /**
     * Carries out instructions. The methods for the groups of instructions answer the clocks that
     * the instruction takes, NO_SUCH when there is none such: nothing but PC has changed then.
     */
    private static final class Processor {
        private static final int NO_SUCH = 0;
        private static final int M = 6;

        final Registers registers = new Registers();
        private final Memory memory;
        private final Chain chain;
        private final Bank now;
        private final int[] r;

        boolean enabled = false;
        int mode = 1;
        boolean halted = false;
        boolean stopped = false;
        private boolean attentionWaits = false;

        int clocks = 0;
        int instructions = 0;
        int acknowledgements = 0;

        Processor(Memory memory, Chain chain) {
            this.memory = memory;
            this.chain = chain;
            now = registers.now;
            r = now.bytes;
        }

        /** One instruction, or one wait of HALT; answers its clocks. */
        int carryOut() {
            attentionWaits = false;
            int first = registers.pc;
            int taken = 4;
            if (!halted) {
                int code = nextByte();
                switch (code >> 6) {
                    case 0:
                        taken = lowQuarter(code);
                        break;
                    case 1:
                        taken = moveOrHalt(code);
                        break;
                    case 2:
                        operate(code >> 3 & 7, read(code & 7));
                        taken = (code & 7) == M ? 7 : 4;
                        break;
                    default:
                        boolean alone = (code & 7) == 3 || (code & 15) == 13;
                        taken = alone ? highAlone(code) : highColumns(code);
                }
            }
            if (taken == NO_SUCH) {
                registers.pc = first;
                stopped = true;
                return 0;
            }
            instructions++;
            spend(taken);
            return taken;
        }

        /** Acknowledges a device behind an instruction, if one is due; answers the clocks of it. */
        int attend() {
            if (!enabled || attentionWaits || stopped) {
                return 0;
            }
            Device device = chain.firstToAttend();
            if (device == null) {
                return 0;
            }
            device.requesting = false;
            device.inService = true;
            enabled = false;
            halted = false;
            acknowledgements++;
            boolean byVector = mode == 2;
            // The word is read behind the push, which may have changed it.
            push(registers.pc);
            registers.pc = byVector ? memory.wordAt(registers.page * 256 + device.vector) : 0x38;
            int taken = byVector ? 19 : 13;
            spend(taken);
            return taken;
        }

        private void spend(int taken) {
            clocks += taken;
            chain.takeClocks(taken);
        }

        private int lowQuarter(int code) {
            int which = code >> 3;
            switch (code & 7) {
                case 0:
                    return relative(which);
                case 1:
                    return wordLoadOrSum(code);
                case 2:
                    return transfer(which);
                case 3:
                    putWide(code >> 4, wide(code >> 4) + ((code & 8) == 0 ? 1 : -1));
                    return 6;
                case 4:
                    return step(which, Flags.add(read(which), 1, 0));
                case 5:
                    return step(which, Flags.subtract(read(which), 1, 0));
                case 6:
                    write(which, nextByte());
                    return which == M ? 10 : 7;
                default:
                    return onA(which);
            }
        }

        private int relative(int which) {
            switch (which) {
                case 0:
                    return 4;
                case 1:
                    registers.exchange(Bank.AF);
                    return 4;
                case 2:
                    r[Bank.B] = r[Bank.B] - 1 & 255;
                    return goOn(r[Bank.B] != 0) + 1;
                case 3:
                    return goOn(true);
                default:
                    return goOn(condition(which & 3));
            }
        }

        private int goOn(boolean really) {
            int e = (byte) nextByte();
            if (!really) {
                return 7;
            }
            registers.pc = registers.pc + e & 0xffff;
            return 12;
        }

        private int wordLoadOrSum(int code) {
            if ((code & 8) == 0) {
                putWide(code >> 4, nextWord());
                return 10;
            }
            int sum = Flags.addWords(now.pair(Bank.HL), wide(code >> 4), 0);
            now.putPair(Bank.HL, sum >> 8);
            changeFlags(Flags.H | Flags.N | Flags.C, sum);
            return 11;
        }

        private int transfer(int which) {
            switch (which) {
                case 0: case 2:
                    memory.putByte(now.pair(which >> 1), r[Bank.A]);
                    return 7;
                case 1: case 3:
                    r[Bank.A] = memory.byteAt(now.pair(which >> 1));
                    return 7;
                case 4:
                    memory.putWord(nextWord(), now.pair(Bank.HL));
                    return 16;
                case 5:
                    now.putPair(Bank.HL, memory.wordAt(nextWord()));
                    return 16;
                case 6:
                    memory.putByte(nextWord(), r[Bank.A]);
                    return 13;
                default:
                    r[Bank.A] = memory.byteAt(nextWord());
                    return 13;
            }
        }

        /** What is left to do for r + 1 and r - 1, which leave C alone. */
        private int step(int which, int result) {
            write(which, result >> 8);
            changeFlags(Flags.ALL & ~Flags.C, result);
            return which == M ? 11 : 4;
        }

        private int onA(int which) {
            int carry = r[Bank.F] & Flags.C;
            switch (which) {
                case 0: case 1: case 2: case 3:
                    int result = Flags.shift(which, r[Bank.A], carry);
                    r[Bank.A] = result >> 8;
                    changeFlags(Flags.H | Flags.N | Flags.C, result);
                    return 4;
                case 5:
                    r[Bank.A] ^= 255;
                    changeFlags(Flags.H | Flags.N, Flags.H | Flags.N);
                    return 4;
                case 6:
                    changeFlags(Flags.H | Flags.N | Flags.C, Flags.C);
                    return 4;
                case 7:
                    changeFlags(Flags.H | Flags.N | Flags.C, carry == 0 ? Flags.C : Flags.H);
                    return 4;
                default:
                    return NO_SUCH;
            }
        }

        private int moveOrHalt(int code) {
            int to = code >> 3 & 7;
            int from = code & 7;
            if (to == M && from == M) {
                halted = true;
                return 4;
            }
            write(to, read(from));
            return to == M || from == M ? 7 : 4;
        }

        private void operate(int operation, int v) {
            int result = Flags.operate(operation, r[Bank.A], v, r[Bank.F] & Flags.C);
            if (operation != 7) {
                r[Bank.A] = result >> 8;
            }
            changeFlags(Flags.ALL, result);
        }

        /** The codes from C0 on of which each does something of its own. */
        private int highAlone(int code) {
            switch (code) {
                case 0xc3:
                    registers.pc = nextWord();
                    return 10;
                case 0xcb:
                    return bits(nextByte());
                case 0xcd:
                    return callIf(true);
                case 0xd3:
                    chain.output(nextByte(), r[Bank.A]);
                    return 11;
                case 0xdb:
                    r[Bank.A] = chain.input(nextByte());
                    return 11;
                case 0xe3:
                    int kept = memory.wordAt(registers.sp);
                    memory.putWord(registers.sp, now.pair(Bank.HL));
                    now.putPair(Bank.HL, kept);
                    return 19;
                case 0xeb:
                    int de = now.pair(Bank.DE);
                    now.putPair(Bank.DE, now.pair(Bank.HL));
                    now.putPair(Bank.HL, de);
                    return 4;
                case 0xed:
                    return extended(nextByte());
                case 0xf3:
                    enabled = false;
                    return 4;
                case 0xfb:
                    enabled = true;
                    attentionWaits = true;
                    return 4;
                default:
                    return NO_SUCH;
            }
        }

        /** The codes from C0 on whose low three bits tell what they do. */
        private int highColumns(int code) {
            int which = code >> 3 & 7;
            switch (code & 7) {
                case 0:
                    return returnIf(which);
                case 1:
                    return popOrLeap(code);
                case 2:
                    return goIf(which);
                case 4:
                    return callIf(condition(which));
                case 5:
                    push(now.pair(which >> 1));
                    return 11;
                case 6:
                    operate(which, nextByte());
                    return 7;
                default:
                    push(registers.pc);
                    registers.pc = 8 * which;
                    return 11;
            }
        }

        private int goIf(int cc) {
            int target = nextWord();
            if (condition(cc)) {
                registers.pc = target;
            }
            return 10;
        }

        private int returnIf(int cc) {
            if (!condition(cc)) {
                return 5;
            }
            registers.pc = pop();
            return 11;
        }

        private int callIf(boolean really) {
            int target = nextWord();
            if (!really) {
                return 10;
            }
            push(registers.pc);
            registers.pc = target;
            return 17;
        }

        private int popOrLeap(int code) {
            int which = code >> 4 & 3;
            if ((code & 8) == 0) {
                now.putPair(which, pop());
                return 10;
            }
            switch (which) {
                case 0:
                    registers.pc = pop();
                    return 10;
                case 1:
                    registers.exchange(Bank.BC);
                    registers.exchange(Bank.DE);
                    registers.exchange(Bank.HL);
                    return 4;
                case 2:
                    registers.pc = now.pair(Bank.HL);
                    return 4;
                default:
                    registers.sp = now.pair(Bank.HL);
                    return 6;
            }
        }

        /** The instructions behind CB. */
        private int bits(int code) {
            int which = code >> 3 & 7;
            int q = code & 7;
            int v = read(q);
            switch (code >> 6) {
                case 0:
                    if (which == 6) {
                        return NO_SUCH;
                    }
                    int result = Flags.shift(which, v, r[Bank.F] & Flags.C);
                    write(q, result >> 8);
                    changeFlags(Flags.ALL, result);
                    break;
                case 1:
                    int bit = v & 1 << which;
                    int flags = bit == 0 ? Flags.Z | Flags.P : bit & Flags.S;
                    changeFlags(Flags.ALL & ~Flags.C, flags | Flags.H);
                    return q == M ? 12 : 8;
                case 2:
                    write(q, v & ~(1 << which));
                    break;
                default:
                    write(q, v | 1 << which);
            }
            return q == M ? 15 : 8;
        }

        /** The instructions behind ED. */
        private int extended(int code) {
            switch (code) {
                case 0x44:
                    int result = Flags.subtract(0, r[Bank.A], 0);
                    now.putPair(Bank.AF, result);
                    return 8;
                case 0x42: case 0x52: case 0x62: case 0x72:
                case 0x4a: case 0x5a: case 0x6a: case 0x7a:
                    return wordsWithCarry(code);
                case 0xa0:
                    copyByte();
                    return 16;
                case 0xb0:
                    if (!copyByte()) {
                        return 16;
                    }
                    registers.pc = registers.pc - 2 & 0xffff;
                    return 21;
                case 0x47:
                    registers.page = r[Bank.A];
                    return 9;
                case 0x56:
                    mode = 1;
                    return 8;
                case 0x5e:
                    mode = 2;
                    return 8;
                case 0x4d:
                    registers.pc = pop();
                    chain.endService();
                    return 14;
                default:
                    return NO_SUCH;
            }
        }

        private int wordsWithCarry(int code) {
            int hl = now.pair(Bank.HL);
            int other = wide(code >> 4 & 3);
            int carry = r[Bank.F] & Flags.C;
            int result = (code & 8) == 0
                    ? Flags.subtractWords(hl, other, carry)
                    : Flags.addWords(hl, other, carry);
            now.putPair(Bank.HL, result >> 8);
            changeFlags(Flags.ALL, result);
            return 15;
        }

        /** Answers whether BC is not 0 behind it. */
        private boolean copyByte() {
            int de = now.pair(Bank.DE);
            int hl = now.pair(Bank.HL);
            memory.putByte(de, memory.byteAt(hl));
            now.putPair(Bank.DE, de + 1);
            now.putPair(Bank.HL, hl + 1);
            now.putPair(Bank.BC, now.pair(Bank.BC) - 1);
            boolean more = now.pair(Bank.BC) != 0;
            changeFlags(Flags.H | Flags.N | Flags.P, more ? Flags.P : 0);
            return more;
        }

        /** NZ Z NC C PO PE P M for 0 .. 7. */
        private boolean condition(int cc) {
            int flag;
            switch (cc >> 1) {
                case 0:
                    flag = Flags.Z;
                    break;
                case 1:
                    flag = Flags.C;
                    break;
                case 2:
                    flag = Flags.P;
                    break;
                default:
                    flag = Flags.S;
            }
            boolean isSet = (r[Bank.F] & flag) != 0;
            return isSet == ((cc & 1) != 0);
        }

        private void changeFlags(int which, int flags) {
            r[Bank.F] = (r[Bank.F] & ~which) | (flags & which);
        }

        private int read(int which) {
            if (which == M) {
                return memory.byteAt(now.pair(Bank.HL));
            }
            return r[which & 7];
        }

        private void write(int which, int v) {
            if (which == M) {
                memory.putByte(now.pair(Bank.HL), v);
            } else {
                r[which & 7] = v;
            }
        }

        /** BC DE HL SP for 0 .. 3. */
        private int wide(int rr) {
            return rr == 3 ? registers.sp : now.pair(rr);
        }

        private void putWide(int rr, int v) {
            if (rr == 3) {
                registers.sp = v & 0xffff;
            } else {
                now.putPair(rr, v);
            }
        }

        private int nextByte() {
            int v = memory.byteAt(registers.pc);
            registers.pc = registers.pc + 1 & 0xffff;
            return v;
        }

        private int nextWord() {
            int low = nextByte();
            return low | nextByte() << 8;
        }

        private void push(int v) {
            registers.sp = registers.sp - 2 & 0xffff;
            memory.putWord(registers.sp, v);
        }

        private int pop() {
            int v = memory.wordAt(registers.sp);
            registers.sp = registers.sp + 2 & 0xffff;
            return v;
        }
    }
}
