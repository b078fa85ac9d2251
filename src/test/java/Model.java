import java.util.ArrayList;
import java.util.Arrays;
import java.util.List;

/**
 * The document once more, as near to its words as can be and with no thought for what it costs, so that
 * ModelTest can compare the two. It shares nothing with StationLine.
 */
final class Model {
    static final class Gram {
        int command;
        int address;
        int offset;
        int counter;
        int[] data;

        Gram(int command, int address, int offset, int... data) {
            this.command = command;
            this.address = address;
            this.offset = offset;
            this.data = data;
        }
    }

    static final class St {
        final int outs;
        final int ins;
        final int[] mem = new int[128];
        final int[][] fresh = new int[4][];
        final int[][] done = new int[4][];
        final boolean[] written = new boolean[4];
        final int[] sensor = new int[2];
        final int[] actuator = new int[2];
        int state = 1;
        int error;
        int one;
        int two;
        int messages;
        int age;
        boolean control;
        boolean renewed;

        St(int outs, int ins) {
            this.outs = outs;
            this.ins = ins;
            for (int c = 0; c < 4; c++) {
                clear(c);
            }
        }

        void clear(int c) {
            fresh[c] = new int[8];
            done[c] = new int[8];
            written[c] = false;
            mem[48 + c] = 0;
        }

        int start(int c) {
            return mem[32 + 4 * c];
        }

        int length(int c) {
            return mem[33 + 4 * c];
        }

        int mode(int c) {
            return mem[34 + 4 * c];
        }

        int last(int c) {
            return start(c) + length(c) - 1;
        }

        boolean open(int c) {
            boolean sized = length(c) > 0 && length(c) < 9;
            return mem[35 + 4 * c] == 1 && start(c) > 63 && sized && start(c) + length(c) < 129;
        }

        boolean open(int c, int mode, int length) {
            return open(c) && mode(c) == mode && length(c) == length;
        }

        int owner(int b) {
            for (int c = 0; c < 4; c++) {
                if (open(c) && start(c) <= b && b <= last(c)) {
                    return c;
                }
            }
            return -1;
        }

        boolean within(int b, int from, int to) {
            return from <= b && b <= to;
        }

        boolean touches(int c, int from, int to) {
            for (int b = from; b <= to; b++) {
                if (owner(b) == c) {
                    return true;
                }
            }
            return false;
        }

        boolean allowed(int from, int to, boolean write) {
            if (to > 127) {
                return false;
            }
            for (int c = 0; c < 4; c++) {
                if (!touches(c, from, to)) {
                    continue;
                }
                boolean whole = from <= start(c) && last(c) <= to;
                boolean yes = false;
                if (mode(c) == 0) {
                    yes = !write && written[c];
                } else if (mode(c) == 1) {
                    yes = !write && mem[48 + c] == 1 && whole;
                } else if (mode(c) == 2) {
                    yes = write;
                } else if (mode(c) == 3) {
                    yes = write && mem[48 + c] == 0 && whole;
                }
                if (!yes) {
                    return false;
                }
            }
            return true;
        }

        int get(int b) {
            if (b == 2) {
                return state + (error > 0 ? 16 : 0);
            }
            if (b == 3) {
                return error;
            }
            int c = owner(b);
            if (c < 0) {
                return mem[b];
            }
            return mode(c) == 1 || mode(c) == 3 ? done[c][b - start(c)] : fresh[c][b - start(c)];
        }

        /** The bytes from..to, or null if reading them is not allowed. */
        int[] read(int from, int to) {
            if (!allowed(from, to, false)) {
                return null;
            }
            for (int c = 0; c < 4; c++) {
                if (open(c) && mode(c) == 0 && owner(start(c)) == c && within(start(c), from, to)) {
                    fresh[c] = done[c].clone();
                }
            }
            int[] bytes = new int[to - from + 1];
            for (int b = from; b <= to; b++) {
                bytes[b - from] = get(b);
            }
            for (int c = 0; c < 4; c++) {
                if (touches(c, from, to) && mode(c) == 1) {
                    mem[48 + c] = 0;
                }
            }
            return bytes;
        }

        boolean write(int from, int[] bytes) {
            int to = from + bytes.length - 1;
            if (!allowed(from, to, true)) {
                return false;
            }
            for (int b = from; b <= to; b++) {
                int c = owner(b);
                int value = bytes[b - from];
                if (c >= 0) {
                    (mode(c) == 3 ? done : fresh)[c][b - start(c)] = value;
                } else if (b != 2 && b != 3 && !within(b, 48, 51)) {
                    mem[b] = value;
                }
            }
            for (int c = 0; c < 4; c++) {
                if (touches(c, from, to) && mode(c) == 3) {
                    mem[48 + c] = 1;
                }
                if (open(c) && mode(c) == 2 && owner(last(c)) == c && within(last(c), from, to)) {
                    done[c] = fresh[c].clone();
                    written[c] = true;
                    if (c == 2) {
                        age = 0;
                        renewed = true;
                    }
                }
            }
            for (int b = Math.max(from, 32); b <= Math.min(to, 47); b++) {
                clear((b - 32) / 4);
            }
            control |= within(1, from, to);
            return true;
        }

        void meet(Gram g) {
            if (g.command >= 10) {
                logical(g);
                return;
            }
            boolean fixed = g.command == 4 || g.command == 5;
            boolean position = g.command == 1 || g.command == 2;
            if (fixed ? g.address == mem[0] : !position || g.address == 0) {
                direct(g);
            }
            if (!fixed) {
                g.address = (g.address + 1) % 65536;
            }
        }

        void direct(Gram g) {
            if (g.command == 2 || g.command == 5 || g.command == 8) {
                if (write(g.offset, g.data)) {
                    g.counter++;
                }
                return;
            }
            int[] bytes = read(g.offset, g.offset + g.data.length - 1);
            if (bytes != null) {
                g.counter++;
                for (int i = 0; i < bytes.length; i++) {
                    g.data[i] = g.command == 7 ? g.data[i] | bytes[i] : bytes[i];
                }
            }
        }

        void logical(Gram g) {
            int[] came = g.data.clone();
            boolean readSome = false;
            boolean wroteSome = false;
            for (int m = 0; m < 4; m++) {
                int at = 8 + 6 * m;
                int count = mem[at + 2];
                int type = mem[at + 5];
                List<int[]> pairs = new ArrayList<>();
                for (int i = 0; count <= 64 && i < count; i++) {
                    int dataBit = 8 * mem[at] + mem[at + 1] % 8 + i - 8 * g.address;
                    if (dataBit >= 0 && dataBit < 8 * g.data.length) {
                        pairs.add(new int[] {dataBit, 8 * mem[at + 3] + mem[at + 4] % 8 + i});
                    }
                }
                if (pairs.isEmpty() || pairs.get(pairs.size() - 1)[1] >= 8 * 128) {
                    continue;
                }
                int from = pairs.get(0)[1] / 8;
                int to = pairs.get(pairs.size() - 1)[1] / 8;
                if (type % 2 == 1 && g.command != 11) {
                    int[] bytes = read(from, to);
                    if (bytes != null) {
                        readSome = true;
                        for (int[] pair : pairs) {
                            setBit(g.data, pair[0], bit(bytes, pair[1] - 8 * from));
                        }
                    }
                }
                if (type / 2 % 2 == 1 && g.command != 10) {
                    int[] bytes = new int[to - from + 1];
                    for (int b = from; b <= to; b++) {
                        bytes[b - from] = get(b);
                    }
                    for (int[] pair : pairs) {
                        setBit(bytes, pair[1] - 8 * from, bit(came, pair[0]));
                    }
                    wroteSome |= write(from, bytes);
                }
            }
            g.counter += (readSome ? 1 : 0) + (wroteSome ? g.command == 12 ? 2 : 1 : 0);
        }

        static int bit(int[] bytes, int i) {
            return bytes[i / 8] >> i % 8 & 1;
        }

        static void setBit(int[] bytes, int i, int bit) {
            if (bit != bit(bytes, i)) {
                bytes[i / 8] ^= 1 << i % 8;
            }
        }

        void tick() {
            if (control && (error == 0 || (mem[1] & 16) > 0)) {
                error = 0;
                ask(mem[1] % 16);
            }
            control = false;
            boolean boxes = open(0, 3, 6) && open(1, 1, 6);
            if (state != 1 && boxes && mem[48] == 1 && mem[49] == 0) {
                int[] reply = reply(done[0]);
                messages++;
                mem[48] = 0;
                System.arraycopy(reply, 0, done[1], 0, 6);
                mem[49] = 1;
            }
            if ((state == 4 || state == 8) && ins > 0 && open(3, 0, ins)) {
                for (int i = 0; i < ins; i++) {
                    done[3][i] = sensor[i];
                }
                written[3] = true;
            }
            if (state != 8) {
                Arrays.fill(actuator, 0);
            } else if (outs > 0 && open(2, 2, outs) && written[2]) {
                for (int i = 0; i < outs; i++) {
                    actuator[i] = done[2][i];
                }
            }
            age++;
            if (state == 8 && outs > 0 && mem[4] != 0 && age > mem[4]) {
                state = 4;
                error = 27;
                renewed = false;
                Arrays.fill(actuator, 0);
            }
        }

        void ask(int r) {
            List<Integer> states = List.of(1, 2, 4, 8);
            if (!states.contains(r)) {
                error = 18;
                return;
            }
            int steps = states.indexOf(r) - states.indexOf(state);
            if (steps > 1) {
                error = 17;
            } else if (steps == 1 && r == 2) {
                error = open(0, 3, 6) && open(1, 1, 6) ? 0 : 22;
            } else if (steps == 1 && r == 4) {
                boolean outsWell = outs > 0 ? open(2, 2, outs) : mem[43] == 0;
                boolean insWell = ins > 0 ? open(3, 0, ins) : mem[47] == 0;
                error = !outsWell ? 29 : !insWell ? 30 : 0;
            } else if (steps == 1) {
                error = outs > 0 && (!written[2] || !renewed) ? 27 : 0;
            }
            if (error == 0) {
                if (r == 4 && state == 2) {
                    renewed = false;
                }
                if (r == 8 && state == 4) {
                    age = 0;
                }
                state = r;
            }
        }

        int[] reply(int[] message) {
            int kind = message[0];
            int index = message[1];
            int value = 0;
            for (int i = 5; i >= 2; i--) {
                value = value * 256 + message[i];
            }
            int answer = 0;
            if (kind == 1 && (index == 1 || index == 2)) {
                if (index == 1) {
                    one = value;
                } else {
                    two = value;
                }
            } else if (kind == 2 && index < 4) {
                answer = new int[] {1000 + 16 * outs + ins, one, two, messages}[index];
            } else {
                answer = kind != 1 && kind != 2 ? 1 : index > 3 ? 2 : 3;
                kind = 3;
            }
            return message(kind, index, answer);
        }
    }

    static int[] message(int kind, int index, int value) {
        return new int[] {kind & 255, index & 255, value & 255, value >> 8 & 255, value >> 16 & 255, value >>> 24};
    }

    private final List<St> line = new ArrayList<>();
    private final boolean[] broken = new boolean[6];
    private List<Gram> ready = new ArrayList<>();
    private List<Gram> returned;
    private int spoil = -1;
    private int found;
    private int setUp;
    private int[] outImage = {};
    private int[] inImage = {};

    private boolean go(List<Gram> frame) {
        int spoilt = spoil;
        spoil = -1;
        returned = null;
        for (int s = 0; s < line.size(); s++) {
            if (broken[s]) {
                if (s > 0) {
                    returned = frame;
                }
                return s > 0;
            }
            if (spoilt == s) {
                return false;
            }
            for (Gram g : frame) {
                line.get(s).meet(g);
            }
        }
        if (spoilt == line.size()) {
            return false;
        }
        returned = frame;
        return true;
    }

    private int goOne(Gram g) {
        return go(List.of(g)) ? g.counter : -1;
    }

    int station(int outputs, int inputs) {
        if (line.size() == 6 || outputs < 0 || outputs > 2 || inputs < 0 || inputs > 2) {
            return -1;
        }
        line.add(new St(outputs, inputs));
        return line.size() - 1;
    }

    int datagram(int command, int address, int offset, int length) {
        boolean logical = command == 10 || command == 11 || command == 12;
        boolean known = logical || List.of(1, 2, 4, 5, 7, 8).contains(command);
        boolean offsetWell = logical || offset >= 0 && offset <= 127;
        boolean rest = address >= 0 && address <= 65535 && length >= 1 && length <= 8;
        if (ready.size() == 3 || !known || !offsetWell || !rest) {
            return -1;
        }
        ready.add(new Gram(command, address, offset, new int[length]));
        return ready.size() - 1;
    }

    boolean data(int d, int i, int value) {
        if (d < 0 || d >= ready.size() || i < 0 || i >= ready.get(d).data.length) {
            return false;
        }
        ready.get(d).data[i] = value & 255;
        return true;
    }

    int send() {
        if (ready.isEmpty()) {
            return -1;
        }
        List<Gram> frame = ready;
        ready = new ArrayList<>();
        return go(frame) ? 1 : 0;
    }

    int returned(int d, int i) {
        if (returned == null || d < 0 || d >= returned.size()) {
            return -1;
        }
        Gram g = returned.get(d);
        if (i == -1 || i == -2) {
            return i == -1 ? g.counter : g.address;
        }
        return i >= 0 && i < g.data.length ? g.data[i] : -1;
    }

    private boolean there(int station) {
        return station >= 0 && station < line.size();
    }

    boolean cut(int k, boolean value) {
        if (there(k)) {
            broken[k] = value;
        }
        return there(k);
    }

    boolean spoil(int k) {
        if (k >= 0 && k <= line.size()) {
            spoil = k;
            return true;
        }
        return false;
    }

    void tick() {
        for (St st : line) {
            st.tick();
        }
    }

    boolean sense(int station, int i, int value) {
        if (!there(station) || i < 0 || i >= line.get(station).ins) {
            return false;
        }
        line.get(station).sensor[i] = value & 255;
        return true;
    }

    int actuator(int station, int i) {
        return !there(station) || i < 0 || i >= line.get(station).outs ? -1 : line.get(station).actuator[i];
    }

    int state(int station) {
        return there(station) ? line.get(station).get(2) + 256 * line.get(station).get(3) : -1;
    }

    int scan() {
        setUp = 0;
        found = Math.max(0, goOne(new Gram(7, 0, 0, 0)));
        if (returned == null) {
            return -1;
        }
        for (int s = 0; s < found; s++) {
            goOne(new Gram(2, s == 0 ? 0 : 65536 - s, 0, s + 1));
        }
        return found;
    }

    int setup() {
        setUp = found;
        int place = 0;
        int well = 0;
        for (int s = 0; s < found; s++) {
            int o = line.get(s).outs;
            int i = line.get(s).ins;
            List<Gram> first = List.of(
                    new Gram(5, s + 1, 32, 64, 6, 3, 1, 72, 6, 1, 1),
                    new Gram(5, s + 1, 40, 80, o, 2, Math.min(o, 1), 96, i, 0, Math.min(i, 1)),
                    new Gram(5, s + 1, 8, place, 0, 8 * o, 80, 0, 2));
            boolean firstWell = go(first) && first.stream().allMatch(g -> g.counter == 1);
            boolean secondWell = goOne(new Gram(5, s + 1, 14, place + o, 0, 8 * i, 96, 0, 1)) == 1;
            well += firstWell && secondWell ? 1 : 0;
            place += o + i;
        }
        outImage = new int[place];
        inImage = new int[place];
        return well;
    }

    int request(int control) {
        return goOne(new Gram(8, 0, 1, control & 255));
    }

    private boolean inImage(int i) {
        return setUp > 0 && i >= 0 && i < outImage.length;
    }

    boolean output(int i, int value) {
        if (inImage(i)) {
            outImage[i] = value & 255;
        }
        return inImage(i);
    }

    int cycle() {
        if (!inImage(0)) {
            return -1;
        }
        List<Gram> frame = new ArrayList<>();
        for (int at = 0; at < outImage.length; at += 8) {
            frame.add(new Gram(12, at, 0, Arrays.copyOfRange(outImage, at, Math.min(at + 8, outImage.length))));
        }
        if (!go(frame)) {
            return 1;
        }
        int[] due = new int[frame.size()];
        int place = 0;
        for (int s = 0; s < setUp; s++) {
            boolean[] outPart = new boolean[3];
            boolean[] inPart = new boolean[3];
            for (int i = 0; i < line.get(s).outs; i++) {
                outPart[place++ / 8] = true;
            }
            for (int i = 0; i < line.get(s).ins; i++) {
                inPart[place++ / 8] = true;
            }
            for (int p = 0; p < due.length; p++) {
                due[p] += (outPart[p] ? 2 : 0) + (inPart[p] ? 1 : 0);
            }
        }
        for (int p = 0; p < due.length; p++) {
            if (frame.get(p).counter != due[p]) {
                return 2 + p;
            }
        }
        for (int i = 0; i < inImage.length; i++) {
            inImage[i] = frame.get(i / 8).data[i % 8];
        }
        return 0;
    }

    int input(int i) {
        return inImage(i) ? inImage[i] : -1;
    }

    int ask(int station, int kind, int index, int value) {
        return there(station) ? goOne(new Gram(5, station + 1, 64, message(kind, index, value))) : -1;
    }

    int answer(int station) {
        return there(station) ? goOne(new Gram(4, station + 1, 72, new int[6])) : -1;
    }
}
