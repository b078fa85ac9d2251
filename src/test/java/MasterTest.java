/** Promises 13, 14, 15, 16, 17 and 18. */
public final class MasterTest {
    private static final Due DUE = new Due();

    public static void main(String[] args) {
        scan();
        scanForgets();
        setupWrites();
        setupCounts();
        request();
        image();
        cycle();
        cycleInParts();
        wrongCounters();
        inputsStay();
        DUE.end();
    }

    private static Line line(int... outputsAndInputs) {
        Line line = new Line();
        for (int i = 0; i < outputsAndInputs.length; i += 2) {
            line.x.station(outputsAndInputs[i], outputsAndInputs[i + 1]);
        }
        return line;
    }

    private static void to(Line line, int state) {
        line.x.scan();
        line.x.setup();
        for (int next = 2; next <= state; next *= 2) {
            if (next == 8) {
                line.x.cycle();
            }
            line.control(next);
        }
    }

    private static void scan() {
        for (int count = 0; count <= 6; count++) {
            Line line = line(new int[2 * count]);
            DUE.is("scan() of " + count, line.x.scan(), count);
            DUE.is("the latest frame's counter", line.got(-1), count == 0 ? 0 : 1);
            DUE.is("the latest frame's address", line.got(-2), count == 0 ? 0 : 1);
            DUE.is("the latest frame's byte", line.got(0), count);
            DUE.is("one byte", line.got(1), -1);
            for (int s = 0; s < count; s++) {
                DUE.is("ADDRESS of station " + s, line.send(1, (65536 - s) % 65536, 0, 1), 1);
                DUE.is("ADDRESS of station " + s, line.got(0), s + 1);
            }
        }
        Line line = line(0, 0, 0, 0, 0, 0);
        line.x.cut(2, true);
        DUE.is("scan() up to a break", line.x.scan(), 2);
        line.x.cut(2, false);
        DUE.is("the third has no ADDRESS", line.send(4, 0, 0, 1), 1);
        line.x.cut(0, true);
        DUE.is("scan() over a break", line.x.scan(), -1);
        DUE.is("nothing is RETURNED", line.got(-1), -1);
        line.x.cut(0, false);
        line.x.spoil(2);
        DUE.is("scan() with a spoilt frame", line.x.scan(), -1);
        DUE.is("then nothing is found", line.x.setup(), 0);
        DUE.is("scan()", line.x.scan(), 3);
        DUE.is("found", line.x.setup(), 3);
    }

    private static void scanForgets() {
        Line line = line(1, 1);
        to(line, 4);
        DUE.is("cycle()", line.x.cycle(), 0);
        line.x.scan();
        DUE.is("they are not set up: cycle()", line.x.cycle(), -1);
        DUE.is("they are not set up: output(0, 1)", line.x.output(0, 1), false);
        DUE.is("they are not set up: input(0)", line.x.input(0), -1);
        DUE.is("a refused cycle sends nothing", line.got(-2), 1);
        line.x.setup();
        line.control(2);
        line.control(4);
        DUE.is("cycle()", line.x.cycle(), 0);
        line.x.spoil(0);
        line.x.scan();
        DUE.is("nothing is set up: cycle()", line.x.cycle(), -1);
        DUE.is("nothing is found: setup()", line.x.setup(), 0);
        DUE.is("nothing is set up: output(0, 1)", line.x.output(0, 1), false);
    }

    private static void isRow(String what, Line line, int address, int offset, int... due) {
        DUE.is(what, line.send(4, address, offset, due.length), 1);
        for (int i = 0; i < due.length; i++) {
            DUE.is(what + ", byte " + (offset + i), line.got(i), due[i]);
        }
    }

    private static void setupWrites() {
        Line line = line(2, 1, 0, 2, 1, 0, 0, 0);
        line.x.scan();
        DUE.is("setup()", line.x.setup(), 4);
        DUE.is("the latest frame has one datagram", line.x.returned(1, -1), -1);
        int[] latest = {6, 0, 0, 96, 0, 1};
        for (int i = 0; i < 6; i++) {
            DUE.is("byte " + i + " of the latest frame", line.got(i), latest[i]);
        }
        DUE.is("address of the latest frame", line.got(-2), 4);
        for (int address = 1; address <= 4; address++) {
            isRow("channels 0 and 1", line, address, 32, 64, 6, 3, 1, 72, 6, 1, 1);
        }
        isRow("channels 2 and 3 of station 0", line, 1, 40, 80, 2, 2, 1, 96, 1, 0, 1);
        isRow("channels 2 and 3 of station 1", line, 2, 40, 80, 0, 2, 0, 96, 2, 0, 1);
        isRow("channels 2 and 3 of station 2", line, 3, 40, 80, 1, 2, 1, 96, 0, 0, 0);
        isRow("channels 2 and 3 of station 3", line, 4, 40, 80, 0, 2, 0, 96, 0, 0, 0);
        isRow("map 0 of station 0", line, 1, 8, 0, 0, 16, 80, 0, 2);
        isRow("map 1 of station 0", line, 1, 14, 2, 0, 8, 96, 0, 1);
        isRow("map 0 of station 1", line, 2, 8, 3, 0, 0, 80, 0, 2);
        isRow("map 1 of station 1", line, 2, 14, 3, 0, 16, 96, 0, 1);
        isRow("map 0 of station 2", line, 3, 8, 5, 0, 8, 80, 0, 2);
        isRow("map 1 of station 2", line, 3, 14, 6, 0, 0, 96, 0, 1);
        isRow("map 0 of station 3", line, 4, 8, 6, 0, 0, 80, 0, 2);
        isRow("nothing else", line, 4, 20, 0, 0, 0, 0, 0, 0, 0, 0);
    }

    private static void setupCounts() {
        Line line = line(1, 1, 1, 1, 1, 1);
        line.x.scan();
        line.x.cut(2, true);
        DUE.is("one is behind a break", line.x.setup(), 2);
        DUE.is("it is set up all the same", line.x.output(5, 1), true);
        line.x.cut(0, true);
        DUE.is("a break before all", line.x.setup(), 0);
        DUE.is("they are set up all the same", line.x.input(5), 0);
        DUE.is("cycle() over the break", line.x.cycle(), 1);
        line.x.cut(0, false);
        line.x.cut(2, false);
        line.x.spoil(3);
        DUE.is("the first frame does not come back", line.x.setup(), 2);
        line.send(2, 65534, 0, 1, 2);
        DUE.is("two stations with one ADDRESS, none with another", line.x.setup(), 1);
        line.x.scan();
        DUE.is("as it was", line.x.setup(), 3);
        line.x.station(2, 2);
        DUE.is("a new station was not found", line.x.setup(), 3);
        DUE.is("it is not in the image", line.x.output(6, 1), false);
        line.x.scan();
        DUE.is("found", line.x.setup(), 4);
        DUE.is("in the image", line.x.output(9, 1), true);
        DUE.is("not in the image", line.x.output(10, 1), false);
    }

    private static void request() {
        Line line = line(0, 0, 0, 0);
        DUE.is("request(0x1234)", line.x.request(0x1234), 2);
        DUE.is("its byte", line.got(0), 0x34);
        DUE.is("one byte", line.got(1), -1);
        DUE.is("its address", line.got(-2), 2);
        DUE.is("CONTROL", line.send(1, 0, 1, 1), 1);
        DUE.is("CONTROL", line.got(0), 0x34);
        line.x.cut(1, true);
        DUE.is("one station", line.x.request(1), 1);
        line.x.cut(0, true);
        DUE.is("none", line.x.request(1), -1);
        DUE.is("without stations", new StationLine().request(1), 0);
    }

    private static void image() {
        Line line = line(1, 1);
        to(line, 4);
        for (int i : new int[] {-1, 2, 24, Integer.MAX_VALUE, Integer.MIN_VALUE}) {
            DUE.is("output(" + i + ", 1)", line.x.output(i, 1), false);
            DUE.is("input(" + i + ")", line.x.input(i), -1);
        }
        DUE.is("0 at first", line.x.input(0), 0);
        DUE.is("0 at first", line.x.input(1), 0);
        DUE.is("output(0, 511)", line.x.output(0, 511), true);
        DUE.is("output(1, 7), where an input is", line.x.output(1, 7), true);
        DUE.is("an output is not an input before the cycle", line.x.input(0), 0);
        line.x.sense(0, 0, 20);
        line.x.tick();
        DUE.is("cycle()", line.x.cycle(), 0);
        DUE.is("the lowest eight bits", line.x.input(0), 255);
        DUE.is("the input", line.x.input(1), 20);
        DUE.is("for the next cycles: cycle()", line.x.cycle(), 0);
        DUE.is("for the next cycles", line.got(0), 255);
        line.x.setup();
        DUE.is("0 after a set-up", line.x.input(0), 0);
        DUE.is("0 after a set-up", line.x.input(1), 0);
        line.x.cycle();
        DUE.is("outputs are 0 after a set-up", line.got(0), 0);
        DUE.is("outputs are 0 after a set-up, where an input is", line.got(1), 0);
        Line empty = line(0, 0, 0, 0);
        to(empty, 2);
        DUE.is("an image without bytes: cycle()", empty.x.cycle(), -1);
        DUE.is("an image without bytes: output(0, 1)", empty.x.output(0, 1), false);
        DUE.is("an image without bytes: input(0)", empty.x.input(0), -1);
    }

    private static void cycle() {
        Line line = line(1, 1, 0, 1);
        line.x.sense(0, 0, 30);
        line.x.sense(1, 0, 40);
        to(line, 4);
        line.x.output(0, 9);
        DUE.is("cycle()", line.x.cycle(), 0);
        DUE.is("counter", line.got(-1), 4);
        DUE.is("address", line.got(-2), 0);
        int[] due = {9, 30, 40, -1};
        for (int i = 0; i < due.length; i++) {
            DUE.is("byte " + i, line.got(i), due[i]);
            DUE.is("input(" + i + ")", line.x.input(i), due[i]);
        }
        DUE.is("one datagram", line.x.returned(1, -1), -1);
        line.control(8);
        DUE.is("the output", line.x.actuator(0, 0), 9);
    }

    private static void cycleInParts() {
        Line line = line(2, 2, 2, 1, 2, 2, 2, 2, 2, 2, 2, 2);
        to(line, 4);
        for (int s = 0; s < 6; s++) {
            line.x.sense(s, 0, 100 + s);
            line.x.sense(s, 1, 200 + s);
        }
        line.x.tick();
        for (int i = 0; i < 23; i++) {
            line.x.output(i, i + 1);
        }
        DUE.is("the last byte", line.x.output(23, 1), false);
        DUE.is("cycle()", line.x.cycle(), 0);
        // Station 2 has its outputs at 7 and 8, station 4 its inputs at 17 and 18 and its outputs at 15 and 16.
        int[] counters = {2 + 1 + 2 + 1 + 2, 2 + 1 + 2 + 1 + 2, 2 + 1 + 2 + 1};
        int[] lengths = {8, 8, 7};
        for (int d = 0; d < 3; d++) {
            DUE.is("address of part " + d, line.x.returned(d, -2), 8 * d);
            DUE.is("counter of part " + d, line.x.returned(d, -1), counters[d]);
            DUE.is("the last byte of part " + d, line.x.returned(d, lengths[d] - 1) >= 0, true);
            DUE.is("length of part " + d, line.x.returned(d, lengths[d]), -1);
        }
        int[] due = {1, 2, 100, 200, 5, 6, 101, 8, 9, 102, 202, 12, 13, 103, 203, 16, 17, 104, 204, 20, 21, 105, 205};
        for (int i = 0; i < due.length; i++) {
            DUE.is("input(" + i + ")", line.x.input(i), due[i]);
        }
        line.control(8);
        DUE.is("RUN", line.x.state(2), 8);
        DUE.is("an output in two parts", line.x.actuator(2, 0), 8);
        DUE.is("an output in two parts", line.x.actuator(2, 1), 9);
        DUE.is("an output of the third part", line.x.actuator(5, 1), 21);

        Line eight = line(2, 2, 2, 2);
        to(eight, 4);
        DUE.is("eight bytes", eight.x.cycle(), 0);
        DUE.is("in one datagram", eight.x.returned(1, -1), -1);
        Line split = line(0, 1, 2, 2, 2, 2, 1, 0);
        to(split, 4);
        split.x.sense(2, 0, 55);
        split.x.sense(2, 1, 66);
        split.x.tick();
        DUE.is("inputs in two parts", split.x.cycle(), 0);
        DUE.is("inputs in two parts", split.x.input(7), 55);
        DUE.is("inputs in two parts", split.x.input(8), 66);
        DUE.is("counter of the second part", split.x.returned(1, -1), 3);
    }

    private static void wrongCounters() {
        Line line = line(2, 2, 2, 2, 2, 2, 2, 2, 2, 2, 2, 2);
        to(line, 2);
        DUE.is("READY: no inputs", line.x.cycle(), 2);
        line.control(4);
        DUE.is("SAFE", line.x.cycle(), 0);
        line.x.cut(4, true);
        DUE.is("stations 4 and 5 are behind a break", line.x.cycle(), 4);
        line.x.cut(3, true);
        DUE.is("station 3 too", line.x.cycle(), 3);
        line.x.cut(1, true);
        DUE.is("station 1 too", line.x.cycle(), 2);
        line.x.cut(0, true);
        DUE.is("all", line.x.cycle(), 1);
        for (int k : new int[] {0, 1, 3, 4}) {
            line.x.cut(k, false);
        }
        DUE.is("whole again", line.x.cycle(), 0);
        line.x.spoil(6);
        DUE.is("spoilt", line.x.cycle(), 1);
        line.send(5, 6, 20, 6, 0, 0, 8, 100, 0, 2);
        DUE.is("a counter that is too great", line.x.cycle(), 2);
        line.send(5, 6, 20, 6, 0, 0, 0, 0, 0, 0);
        DUE.is("as it was", line.x.cycle(), 0);
        line.send(5, 6, 45, 1, 3);
        DUE.is("inputs of station 5 in the third part", line.x.cycle(), 4);
    }

    private static void inputsStay() {
        Line line = line(1, 1, 0, 1);
        to(line, 4);
        line.x.sense(0, 0, 1);
        line.x.tick();
        line.x.cycle();
        line.x.sense(0, 0, 2);
        line.x.tick();
        line.x.cut(1, true);
        line.x.output(0, 9);
        DUE.is("cycle()", line.x.cycle(), 2);
        DUE.is("the frame has it", line.got(1), 2);
        DUE.is("the input image stays", line.x.input(0), 0);
        DUE.is("the input image stays", line.x.input(1), 1);
        line.x.spoil(0);
        DUE.is("cycle()", line.x.cycle(), 1);
        DUE.is("the input image stays", line.x.input(1), 1);
        line.x.cut(1, false);
        DUE.is("cycle()", line.x.cycle(), 0);
        DUE.is("the input image", line.x.input(0), 9);
        DUE.is("the input image", line.x.input(1), 2);
    }
}
