import java.util.ArrayDeque;
import java.util.Deque;
import java.util.Random;

/** All promises: many runs of calls, made by a fixed seed, on StationLine and on the Model side by side. */
public final class ModelTest {
    private static final int RUNS = 30000;
    /** An object is used for at most so many calls. */
    private static final int MOST_CALLS = 512;
    /** At least as many as one step of a run makes: three datagrams with all their data. */
    private static final int STEP = 40;
    private static final int LOOK = 8 * 5 + 5 * 12 + 26;
    private static final int[] CONTROLS = {1, 2, 4, 8, 17, 18, 20, 24, 0, 3, 31, 16};
    private static final int[] OFFSETS = {0, 1, 2, 3, 4, 8, 14, 20, 26, 32, 36, 40, 44, 48, 64, 72, 80, 81, 96, 97};
    private static final int[] BYTES = {0, 1, 2, 3, 4, 6, 8, 16, 24, 64, 66, 72, 80, 82, 96, 97, 120, 127, 128, 255};
    private static final int[] COMMANDS = {1, 2, 4, 5, 7, 8, 10, 11, 12};

    private final Random random;
    private final StationLine x = new StationLine();
    private final Model y = new Model();
    private final Deque<String> calls = new ArrayDeque<>();
    private int stations;
    private int made;
    private boolean differs;

    private ModelTest(long seed) {
        random = new Random(seed);
    }

    public static void main(String[] args) {
        int wrong = 0;
        for (int run = 0; run < RUNS && wrong < 3; run++) {
            if (!new ModelTest(run).isSame()) {
                System.out.println("in the run with seed " + run);
                wrong++;
            }
        }
        if (wrong > 0) {
            System.exit(1);
        }
    }

    private boolean isSame() {
        int wished = random.nextInt(7);
        for (int s = 0; s < wished; s++) {
            station(random.nextInt(3), random.nextInt(3));
        }
        if (random.nextInt(4) > 0) {
            start();
        }
        // Some runs stay near what a master does, others write at random into what it set up.
        int wild = random.nextInt(6);
        while (made + STEP + LOOK <= MOST_CALLS && !differs) {
            if (random.nextInt(6) < wild) {
                frame();
            } else {
                orderly();
            }
            if (random.nextInt(40) == 0 && made + STEP + 2 * LOOK <= MOST_CALLS) {
                look();
            }
        }
        look();
        if (made > MOST_CALLS) {
            System.out.println("a run of " + made + " calls");
            return false;
        }
        return !differs;
    }

    private void same(String call, long got, long want) {
        made(call + " = " + got);
        seen("that", got, want);
    }

    private void made(String call) {
        made++;
        calls.addLast(call);
        if (calls.size() > 40) {
            calls.removeFirst();
        }
    }

    private void seen(String what, long got, long want) {
        if (got != want && !differs) {
            differs = true;
            calls.forEach(System.out::println);
            System.out.println(what + " answered " + got + ", the model answers " + want);
        }
    }

    private void same(String call, boolean got, boolean want) {
        same(call, got ? 1 : 0, want ? 1 : 0);
    }

    private int of(int... values) {
        return values[random.nextInt(values.length)];
    }

    private int anyByte() {
        int kind = random.nextInt(8);
        return kind == 0 ? random.nextInt() : kind == 1 ? random.nextInt(256) : of(BYTES);
    }

    private int anyStation() {
        return random.nextInt(20) == 0 ? of(-1, stations, 6, random.nextInt()) : random.nextInt(stations + 1);
    }

    private int oddly(int value) {
        return random.nextInt(30) == 0 ? of(-1, -3, 0, 3, 9, 24, 65536, 128, random.nextInt()) : value;
    }

    private void station(int outputs, int inputs) {
        int number = x.station(outputs, inputs);
        same("station(" + outputs + ", " + inputs + ")", number, y.station(outputs, inputs));
        stations = Math.max(stations, number + 1);
    }

    private void tick() {
        x.tick();
        y.tick();
        made("tick()");
    }

    private void request(int control) {
        same("request(" + control + ")", x.request(control), y.request(control));
    }

    private void cycle() {
        same("cycle()", x.cycle(), y.cycle());
    }

    private void output() {
        int i = oddly(random.nextInt(24));
        int value = anyByte();
        same("output(" + i + ", " + value + ")", x.output(i, value), y.output(i, value));
    }

    private void start() {
        same("scan()", x.scan(), y.scan());
        same("setup()", x.setup(), y.setup());
        for (int next = 2; next <= 8 && random.nextInt(6) > 0; next *= 2) {
            if (next == 8) {
                output();
                cycle();
            }
            request(next);
            tick();
        }
    }

    private void orderly() {
        int s = anyStation();
        int i = oddly(random.nextInt(2));
        int value = anyByte();
        switch (random.nextInt(26)) {
            case 0 -> station(oddly(random.nextInt(3)), oddly(random.nextInt(3)));
            case 1 -> same("cut(" + s + ", true)", x.cut(s, true), y.cut(s, true));
            case 2, 3 -> {
                for (int k = 0; k < stations; k++) {
                    same("cut(" + k + ", false)", x.cut(k, false), y.cut(k, false));
                }
            }
            case 4 -> same("spoil(" + s + ")", x.spoil(s), y.spoil(s));
            case 5 -> same("sense(" + s + ", " + i + ", " + value + ")", x.sense(s, i, value), y.sense(s, i, value));
            case 6 -> same("scan()", x.scan(), y.scan());
            case 7 -> same("setup()", x.setup(), y.setup());
            case 8 -> start();
            case 9, 10 -> request(random.nextInt(8) == 0 ? random.nextInt() : of(CONTROLS));
            case 11, 12 -> output();
            case 13, 14, 15 -> cycle();
            case 16, 17 -> ask(s, oddly(random.nextInt(4)), oddly(random.nextInt(5)), value);
            case 18, 19 -> answer(s);
            case 20, 21 -> {
                int index = 1 + random.nextInt(3);
                ask(s, 1, index, random.nextInt());
                tick();
                answer(s);
                ask(s, 2, index, value);
                tick();
                answer(s);
            }
            default -> tick();
        }
    }

    private void ask(int s, int kind, int index, int value) {
        same("ask(" + s + ", " + kind + ", " + index + ", " + value + ")",
                x.ask(s, kind, index, value), y.ask(s, kind, index, value));
    }

    private void answer(int s) {
        same("answer(" + s + ")", x.answer(s), y.answer(s));
        for (int i = 0; i < 6; i++) {
            same("returned(0, " + i + ")", x.returned(0, i), y.returned(0, i));
        }
    }

    private void frame() {
        int wished = 1 + random.nextInt(3);
        for (int d = 0; d < wished; d++) {
            datagram(d);
        }
        if (random.nextInt(10) > 0) {
            same("send()", x.send(), y.send());
            for (int d = 0; d < wished; d++) {
                int i = random.nextInt(8);
                same("returned(" + d + ", -1)", x.returned(d, -1), y.returned(d, -1));
                same("returned(" + d + ", " + i + ")", x.returned(d, i), y.returned(d, i));
            }
        }
    }

    private void datagram(int d) {
        int command = oddly(of(COMMANDS));
        int address = oddly(command >= 10 ? random.nextInt(26) : command == 1 || command == 2
                ? -random.nextInt(7) & 65535 : random.nextInt(7));
        int offset = oddly(random.nextInt(4) == 0 ? random.nextInt(128) : of(OFFSETS));
        int length = oddly(random.nextInt(3) == 0 ? of(2, 4, 6, 8) : 1 + random.nextInt(8));
        same("datagram(" + command + ", " + address + ", " + offset + ", " + length + ")",
                x.datagram(command, address, offset, length), y.datagram(command, address, offset, length));
        int[] bytes = wished(offset, length);
        for (int i = 0; i < bytes.length; i++) {
            int at = oddly(i);
            same("data(" + d + ", " + at + ", " + bytes[i] + ")", x.data(d, at, bytes[i]), y.data(d, at, bytes[i]));
        }
    }

    /** Bytes that make channels and maps which do something, where the offset is that of one. */
    private int[] wished(int offset, int length) {
        int[] bytes = new int[Math.max(0, Math.min(8, length))];
        boolean channel = offset >= 32 && offset < 48 && random.nextInt(3) > 0;
        boolean map = offset >= 8 && offset < 32 && random.nextInt(3) > 0;
        for (int i = 0; i < bytes.length; i++) {
            int field = channel ? (offset - 32 + i) % 4 : map ? 10 + (offset - 8 + i) % 6 : -1;
            bytes[i] = switch (field) {
                case 0 -> of(64, 72, 80, 96, 78, 66, 70, 98, 122, 63, 120, random.nextInt(128));
                case 1 -> random.nextInt(10);
                case 2 -> random.nextInt(5);
                case 3 -> of(0, 1, 1, 1, 1, 2);
                case 10 -> random.nextInt(26);
                case 11 -> random.nextInt(10);
                case 12 -> of(0, 1, 7, 8, 12, 16, 44, 48, 64, 65, random.nextInt(65));
                case 13 -> of(0, 1, 8, 13, 14, 20, 32, 44, 64, 72, 79, 80, 81, 96, 120, 127, random.nextInt(140));
                case 14 -> of(0, 0, random.nextInt(10));
                case 15 -> random.nextInt(5);
                default -> anyByte();
            };
        }
        return bytes;
    }

    /** Everything that can be looked at without changing it. */
    private void look() {
        made += LOOK;
        for (int s = -1; s <= stations; s++) {
            seen("state", x.state(s), y.state(s));
            for (int i = -1; i < 3; i++) {
                seen("actuator", x.actuator(s, i), y.actuator(s, i));
            }
        }
        for (int d = -1; d < 4; d++) {
            for (int i = -3; i < 9; i++) {
                seen("returned", x.returned(d, i), y.returned(d, i));
            }
        }
        for (int i = -1; i < 25; i++) {
            seen("input", x.input(i), y.input(i));
        }
    }
}
