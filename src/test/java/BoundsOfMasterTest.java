/** Promises 13 to 20, sentence by sentence: the edges of what the master finds, sets up and exchanges. */
public final class BoundsOfMasterTest {
    private static final Due DUE = new Due();
    private static final int LEAST = Due.LEAST;
    private static final int GREATEST = Due.GREATEST;
    private static final int[] VALUES = {LEAST, -257, -256, -1, 0, 1, 127, 128, 255, 256, 257, GREATEST};
    private static final int[] LOWEST = {0, 255, 0, 255, 0, 1, 127, 128, 255, 0, 1, 255};

    public static void main(String[] args) {
        scanThatDoesNotComeBack();
        scanCounts();
        scanWritesAddresses();
        scanForgetsTheSetUp();
        setupOfNothing();
        setupPlaces();
        setupWithoutOutputsOrInputs();
        setupMakesTheImageZero();
        setupCounts();
        setupInAnyCase();
        requests();
        outputs();
        lowestBitsOfOutputs();
        cycleRefused();
        cycleParts();
        cycleExpects();
        cycleAnswers();
        inputImageStays();
        inputs();
        messages();
        lowestBitsOfMessages();
        askAndAnswerRefused();
        askAndAnswerDoNotComeBack();
        DUE.end();
    }

    private static Line stations(int count, int outputs, int inputs) {
        Line line = new Line();
        for (int s = 0; s < count; s++) {
            line.x.station(outputs, inputs);
        }
        return line;
    }

    /** An image of so many bytes: stations with two outputs and two inputs, and one with the rest. */
    private static Line image(int bytes) {
        Line line = stations(bytes / 4, 2, 2);
        if (bytes % 4 > 0) {
            line.x.station((bytes % 4 + 1) / 2, bytes % 4 / 2);
        }
        line.x.scan();
        line.x.setup();
        return line;
    }

    private static void toSafe(Line line) {
        line.control(2);
        line.control(4);
    }

    private static void isNothingSetUp(String what, StationLine x) {
        DUE.is(what + ": output(0, 1)", x.output(0, 1), false);
        DUE.is(what + ": input(0)", x.input(0), -1);
        DUE.is(what + ": cycle()", x.cycle(), -1);
    }

    private static void scanThatDoesNotComeBack() {
        DUE.sentence("if it does not come back, -1, it has found nothing, and nothing is set up.");
        for (int count = 0; count <= 6; count++) {
            for (int k = 0; k <= count; k++) {
                Line line = stations(count, 1, 1);
                line.x.scan();
                line.x.setup();
                line.x.spoil(k);
                String what = count + " stations, spoil(" + k + ")";
                DUE.is(what + ": scan()", line.x.scan(), -1);
                DUE.is(what + ": nothing is RETURNED", line.got(-1), -1);
                isNothingSetUp(what, line.x);
                DUE.is(what + ": setup()", line.x.setup(), 0);
                isNothingSetUp(what + ", setup()", line.x);
                DUE.is(what + ": setup() sent nothing", line.got(-1), -1);
            }
        }
        Line line = stations(3, 1, 1);
        line.x.scan();
        line.x.setup();
        line.x.cut(0, true);
        DUE.is("a break before station 0: scan()", line.x.scan(), -1);
        isNothingSetUp("a break before station 0", line.x);
        line.x.cut(0, false);
        DUE.is("it found nothing: setup()", line.x.setup(), 0);
        isNothingSetUp("a break before station 0, setup()", line.x);
    }

    private static void scanCounts() {
        DUE.sentence("Otherwise its counter says how many stations there are");
        for (int count = 0; count <= 6; count++) {
            DUE.is("scan() of " + count, stations(count, 2, 2).x.scan(), count);
            for (int k = 1; k < count; k++) {
                Line line = stations(count, 2, 2);
                line.x.cut(k, true);
                DUE.is("scan() of " + count + ", broken before " + k, line.x.scan(), k);
                DUE.is("setup()", line.x.setup(), k);
                DUE.is("the last byte", line.x.input(4 * k - 1), 0);
                DUE.is("the byte behind", line.x.input(4 * k), -1);
            }
        }
    }

    private static void scanWritesAddresses() {
        DUE.sentence("the address by which this one finds 0, offset 0, and one byte, which is its number + 1");
        for (int reach = 1; reach <= 6; reach++) {
            Line line = stations(6, 0, 0);
            line.send(8, 0, 0, 2, 200, 0);
            if (reach < 6) {
                line.x.cut(reach, true);
            }
            line.x.scan();
            DUE.is("byte of the latest frame", line.got(0), reach);
            DUE.is("one byte", line.got(1), -1);
            DUE.is("counter of the latest frame", line.got(-1), 1);
            DUE.is("address of the latest frame", line.got(-2), 1);
            if (reach < 6) {
                line.x.cut(reach, false);
            }
            for (int s = 0; s < 6; s++) {
                line.send(1, (65536 - s) % 65536, 0, 1);
                DUE.is("found " + reach + ", ADDRESS of station " + s, line.got(0), s < reach ? s + 1 : 200);
            }
        }
        StationLine none = new StationLine();
        none.scan();
        DUE.is("of no station: the frame with command 7", none.returned(0, -1), 0);
        DUE.is("of no station: its address", none.returned(0, -2), 0);
        DUE.is("of no station: its byte", none.returned(0, 0), 0);
        DUE.is("of no station: one byte", none.returned(0, 1), -1);
    }

    private static void scanForgetsTheSetUp() {
        DUE.sentence("these it has found, and they are not set up.");
        Line line = image(24);
        line.x.output(23, 9);
        DUE.is("scan()", line.x.scan(), 6);
        isNothingSetUp("scan()", line.x);
        DUE.is("setup()", line.x.setup(), 6);
        DUE.is("set up", line.x.input(23), 0);
    }

    private static void setupOfNothing() {
        DUE.sentence("The master sets up the stations that it has found");
        Line line = stations(2, 1, 1);
        DUE.is("before a scan: setup()", line.x.setup(), 0);
        isNothingSetUp("before a scan", line.x);
        line.x.scan();
        line.x.station(1, 1);
        DUE.is("one is new since the scan: setup()", line.x.setup(), 2);
        DUE.is("its ADDRESS is 0, its CHANNEL 0 is not set up", line.send(4, 0, 32, 1), 1);
        DUE.is("its CHANNEL 0", line.got(0), 0);
        DUE.is("the last byte", line.x.output(3, 1), true);
        DUE.is("no byte of the new one", line.x.output(4, 1), false);
        StationLine none = new StationLine();
        none.scan();
        DUE.is("none was found: setup()", none.setup(), 0);
        DUE.is("none was found: RETURNED is the scan's", none.returned(0, -1), 0);
    }

    private static void isRow(String what, Line line, int address, int offset, int... due) {
        DUE.is(what, line.send(4, address, offset, due.length), 1);
        for (int i = 0; i < due.length; i++) {
            DUE.is(what + ", byte " + (offset + i), line.got(i), due[i]);
        }
    }

    private static void setupPlaces() {
        DUE.sentence("The IMAGE has for each of them, in their order, its output bytes, then its input bytes.");
        Line line = image(24);
        for (int s = 0; s < 6; s++) {
            isRow("map 0 of " + s, line, s + 1, 8, 4 * s, 0, 16, 80, 0, 2);
            isRow("map 1 of " + s, line, s + 1, 14, 4 * s + 2, 0, 16, 96, 0, 1);
        }
        DUE.is("the last byte of 24", line.x.output(23, 1), true);
        DUE.is("no byte 24", line.x.output(24, 1), false);
    }

    private static void setupWithoutOutputsOrInputs() {
        DUE.sentence("(80, outputs, 2, 1 or, without outputs, 0 as ON; 96, inputs, 0, likewise)");
        for (int outputs = 0; outputs <= 2; outputs++) {
            for (int inputs = 0; inputs <= 2; inputs++) {
                Line line = Line.withOne(outputs, inputs);
                DUE.is("setup()", line.x.setup(), 1);
                String what = outputs + " outputs, " + inputs + " inputs: ";
                int outOn = outputs == 0 ? 0 : 1;
                int inOn = inputs == 0 ? 0 : 1;
                isRow(what + "channels 0, 1", line, 1, 32, 64, 6, 3, 1, 72, 6, 1, 1);
                isRow(what + "channels 2, 3", line, 1, 40, 80, outputs, 2, outOn, 96, inputs, 0, inOn);
                isRow(what + "map 0", line, 1, 8, 0, 0, 8 * outputs, 80, 0, 2);
                isRow(what + "map 1", line, 1, 14, outputs, 0, 8 * inputs, 96, 0, 1);
                isRow(what + "maps 2, 3", line, 1, 20, 0, 0, 0, 0, 0, 0, 0, 0);
                isRow(what + "map 3 and beyond", line, 1, 26, 0, 0, 0, 0, 0, 0, 64);
                isRow(what + "bytes 0 to 7", line, 1, 0, 1, 0, 1, 0, 0, 0, 0, 0);
            }
        }
    }

    private static void setupMakesTheImageZero() {
        DUE.sentence("Outputs and inputs of the master's image are all 0 then.");
        Line line = image(24);
        toSafe(line);
        for (int i = 0; i < 24; i++) {
            line.x.output(i, 100 + i);
        }
        for (int s = 0; s < 6; s++) {
            line.x.sense(s, 0, 50);
            line.x.sense(s, 1, 51);
        }
        line.x.tick();
        DUE.is("cycle()", line.x.cycle(), 0);
        DUE.is("input(0)", line.x.input(0), 100);
        DUE.is("input(23)", line.x.input(23), 51);
        line.x.setup();
        for (int i = 0; i < 24; i++) {
            DUE.is("input(" + i + ")", line.x.input(i), 0);
        }
        line.x.cycle();
        for (int i = 0; i < 24; i++) {
            DUE.is("output " + i + " as it is sent", line.x.returned(i / 8, i % 8), 0);
        }
    }

    private static void setupCounts() {
        DUE.sentence("For how many stations both frames came back with all counters 1.");
        for (int count = 1; count <= 6; count++) {
            for (int k = 0; k <= count; k++) {
                Line line = stations(count, 1, 1);
                line.x.scan();
                line.x.spoil(k);
                DUE.is("of " + count + ", spoil(" + k + "): setup()", line.x.setup(), count - 1);
                isRow("station 0: its first frame", line, 1, 32, k == 0 ? new int[3] : new int[] {64, 6, 3});
                isRow("station 0: its second frame", line, 1, 14, 1, 0, 8, 96, 0, 1);
            }
            for (int k = 0; k < count; k++) {
                Line line = stations(count, 1, 1);
                line.x.scan();
                line.x.cut(k, true);
                DUE.is("of " + count + ", cut(" + k + ", true): setup()", line.x.setup(), k);
            }
        }
        Line line = stations(3, 1, 1);
        line.x.scan();
        line.send(2, 65534, 0, 1, 9);
        DUE.is("nobody is the third: setup()", line.x.setup(), 2);
        line.send(2, 65534, 0, 1, 1);
        DUE.is("two are the first, nobody is the third: setup()", line.x.setup(), 1);
    }

    private static void setupInAnyCase() {
        DUE.sentence("(Set up are all that it has found, in any case.)");
        Line line = stations(6, 2, 2);
        line.x.scan();
        line.x.cut(0, true);
        DUE.is("setup()", line.x.setup(), 0);
        DUE.is("the last byte", line.x.output(23, 1), true);
        DUE.is("the last byte", line.x.input(23), 0);
        DUE.is("the byte behind", line.x.input(24), -1);
        DUE.is("cycle()", line.x.cycle(), 1);
        line.x.cut(0, false);
        DUE.is("cycle(): the first datagram's counter is 0", line.x.cycle(), 2);
        DUE.is("cycle(): three datagrams", line.x.returned(2, -1), 0);
    }

    private static void requests() {
        DUE.sentence("one byte, the lowest eight bits of control: its counter; -1 if it does not come back.");
        for (int v = 0; v < VALUES.length; v++) {
            Line line = stations(2, 0, 0);
            DUE.is("request(" + VALUES[v] + ")", line.x.request(VALUES[v]), 2);
            DUE.is("its byte", line.got(0), LOWEST[v]);
            DUE.is("one byte", line.got(1), -1);
            DUE.is("its address", line.got(-2), 2);
            for (int s = 0; s < 2; s++) {
                line.send(1, (65536 - s) % 65536, 0, 2);
                DUE.is("ADDRESS of " + s, line.got(0), 0);
                DUE.is("CONTROL of " + s, line.got(1), LOWEST[v]);
            }
        }
        for (int count = 0; count <= 6; count++) {
            DUE.is("request(1) of " + count, stations(count, 0, 0).x.request(1), count);
            for (int k = 0; k <= count; k++) {
                Line line = stations(count, 0, 0);
                line.x.spoil(k);
                DUE.is("of " + count + ", spoil(" + k + "): request(1)", line.x.request(1), -1);
                line.x.cut(k, true);
                DUE.is("of " + count + ", cut(" + k + ", true): request(1)", line.x.request(1),
                        k == count ? count : k == 0 ? -1 : k);
            }
        }
    }

    private static void outputs() {
        DUE.sentence("false, refused, if nothing is set up or there is no such byte.");
        for (int bytes : new int[] {1, 7, 8, 9, 15, 16, 17, 23, 24}) {
            Line line = image(bytes);
            for (int i : new int[] {LEAST, -1, bytes, bytes + 1, 24, GREATEST}) {
                DUE.is("of " + bytes + ", output(" + i + ", 9)", line.x.output(i, 9), false);
            }
            line.x.cycle();
            for (int i = 0; i < bytes; i++) {
                DUE.is("of " + bytes + ": byte " + i, line.x.returned(i / 8, i % 8), 0);
            }
            for (int i : new int[] {0, bytes - 1}) {
                DUE.is("of " + bytes + ", output(" + i + ", 9)", line.x.output(i, 9), true);
                line.x.cycle();
                DUE.is("of " + bytes + ": byte " + i, line.x.returned(i / 8, i % 8), 9);
            }
        }
        for (int i : new int[] {LEAST, -1, 0, 1, GREATEST}) {
            Line line = stations(2, 2, 2);
            DUE.is("nothing found: output(" + i + ", 1)", line.x.output(i, 1), false);
            line.x.scan();
            DUE.is("nothing set up: output(" + i + ", 1)", line.x.output(i, 1), false);
            Line empty = stations(6, 0, 0);
            empty.x.scan();
            empty.x.setup();
            DUE.is("no bytes: output(" + i + ", 1)", empty.x.output(i, 1), false);
        }
    }

    private static void lowestBitsOfOutputs() {
        DUE.sentence("Byte i of the master's image .. becomes, for the next cycles, the lowest eight bits of value");
        for (int v = 0; v < VALUES.length; v++) {
            Line line = image(4);
            DUE.is("output(0, " + VALUES[v] + ")", line.x.output(0, VALUES[v]), true);
            DUE.is("output(3, " + VALUES[v] + "), where an input is", line.x.output(3, VALUES[v]), true);
            DUE.is("the input image", line.x.input(0), 0);
            for (int round = 0; round < 2; round++) {
                line.x.cycle();
                DUE.is("output(0, " + VALUES[v] + ")", line.got(0), LOWEST[v]);
                DUE.is("output(3, " + VALUES[v] + ")", line.got(3), LOWEST[v]);
            }
        }
    }

    private static void cycleRefused() {
        DUE.sentence("-1, refused, if nothing is set up or the image has no bytes.");
        for (int count = 0; count <= 6; count++) {
            Line line = stations(count, 0, 0);
            DUE.is("nothing found: cycle()", line.x.cycle(), -1);
            DUE.is("nothing is RETURNED", line.got(-1), -1);
            line.x.scan();
            DUE.is("nothing set up: cycle()", line.x.cycle(), -1);
            line.x.setup();
            line.x.request(1);
            line.x.spoil(0);
            DUE.is("no bytes: cycle()", line.x.cycle(), -1);
            DUE.is("RETURNED is the request", line.got(0), 1);
            DUE.is("the next frame is spoilt", line.x.request(1), -1);
        }
        DUE.is("one byte: cycle()", image(1).x.cycle() >= 0, true);
    }

    private static void cycleParts() {
        DUE.sentence("the first eight bytes in the first datagram, the next eight in the second one, and so on");
        for (int bytes = 1; bytes <= 24; bytes++) {
            Line line = image(bytes);
            for (int i = 0; i < bytes; i++) {
                line.x.output(i, 30 + i);
            }
            line.x.cycle();
            for (int d = 0; d < 4; d++) {
                int length = Math.max(0, Math.min(8, bytes - 8 * d));
                DUE.is("of " + bytes + ": address of " + d, line.x.returned(d, -2), length == 0 ? -1 : 8 * d);
                for (int i = 0; i <= 8; i++) {
                    int due = i < length ? 30 + 8 * d + i : -1;
                    DUE.is("of " + bytes + ": byte " + i + " of " + d, line.x.returned(d, i), due);
                }
            }
        }
    }

    /** Stations whose outputs and inputs lie on both sides of byte 8: each counts in each part that has some of them. */
    private static void cycleExpects() {
        DUE.sentence("the counter 2 for each station .. with outputs in that part of the image, and 1 more for each with inputs");
        int[][] lines = {
            {2, 2, 2, 1, 2, 2}, {2, 2, 2, 2, 2, 2}, {2, 2, 1, 2, 0, 2}, {2, 2, 1, 2, 1, 0},
            {2, 2, 2, 1, 0, 1, 2, 0}, {0, 2, 0, 2, 0, 2, 0, 1, 0, 2}, {2, 0, 2, 0, 2, 0, 1, 0, 2, 0},
            {0, 0, 1, 0, 0, 0, 0, 1}, {2, 2, 2, 2, 2, 2, 2, 1, 2, 2, 2, 2}, {1, 0, 2, 2, 2, 2, 2, 2, 2, 2, 0, 2}};
        int[][] counters = {
            {8, 3}, {6, 3}, {7, 1}, {8},
            {7, 2}, {5, 1}, {10, 2},
            {3}, {6, 8, 6}, {8, 7, 2}};
        for (int n = 0; n < lines.length; n++) {
            Line line = new Line();
            for (int s = 0; s < lines[n].length; s += 2) {
                line.x.station(lines[n][s], lines[n][s + 1]);
            }
            line.x.scan();
            line.x.setup();
            toSafe(line);
            DUE.is("line " + n + ": cycle()", line.x.cycle(), 0);
            for (int d = 0; d < 3; d++) {
                int due = d < counters[n].length ? counters[n][d] : -1;
                DUE.is("line " + n + ": counter of " + d, line.x.returned(d, -1), due);
            }
        }
    }

    private static void cycleAnswers() {
        DUE.sentence("1 if the frame does not come back, 2 + the place of the first datagram with another counter.");
        for (int k = 0; k <= 6; k++) {
            Line line = image(24);
            toSafe(line);
            line.x.spoil(k);
            DUE.is("spoil(" + k + "): cycle()", line.x.cycle(), 1);
            DUE.is("the next one", line.x.cycle(), 0);
            if (k < 6) {
                line.x.cut(k, true);
                DUE.is("cut(" + k + ", true): cycle()", line.x.cycle(), k == 0 ? 1 : 2 + k / 2);
            }
        }
        for (int s = 0; s < 6; s++) {
            Line line = image(24);
            toSafe(line);
            // One map more that writes into a plain byte counts nothing new where the station writes anyway ..
            line.send(5, s + 1, 20, 6, 4 * s, 0, 8, 120, 0, 2);
            DUE.is("station " + s + " has a map more: cycle()", line.x.cycle(), 0);
            for (int part = 0; part < 3; part++) {
                // .. but 2 in a part where it has no outputs: a counter that is too great.
                line.send(5, s + 1, 20, 6, 8 * part, 0, 1, 120, 0, 2);
                DUE.is("station " + s + " in part " + part + ": cycle()", line.x.cycle(), part == s / 2 ? 0 : 2 + part);
            }
        }
        Line none = image(24);
        toSafe(none);
        none.send(8, 0, 10, 1, 0);
        DUE.is("no station has map 0: cycle()", none.x.cycle(), 2);
    }

    private static void inputImageStays() {
        DUE.sentence("its data are the input image then. Otherwise that stays as it was");
        Line line = image(24);
        toSafe(line);
        for (int i = 0; i < 24; i++) {
            line.x.output(i, 1);
        }
        DUE.is("cycle()", line.x.cycle(), 0);
        for (int i = 0; i < 24; i++) {
            line.x.output(i, 2);
        }
        line.x.cut(5, true);
        DUE.is("a wrong counter in the third part: cycle()", line.x.cycle(), 4);
        DUE.is("the frame has other data", line.x.returned(0, 0), 2);
        for (int i = 0; i < 24; i++) {
            DUE.is("input(" + i + ")", line.x.input(i), i % 4 < 2 ? 1 : 0);
        }
        line.x.cut(5, false);
        line.x.spoil(6);
        DUE.is("a spoilt frame: cycle()", line.x.cycle(), 1);
        DUE.is("input(0)", line.x.input(0), 1);
        DUE.is("cycle()", line.x.cycle(), 0);
        for (int i = 0; i < 24; i++) {
            DUE.is("input(" + i + ")", line.x.input(i), i % 4 < 2 ? 2 : 0);
        }
    }

    private static void inputs() {
        DUE.sentence("Byte i of the input image (0 at first after a set-up); -1 if nothing is set up or there is no such byte.");
        for (int bytes = 0; bytes <= 24; bytes++) {
            Line line = image(bytes);
            for (int i = 0; i <= 24; i++) {
                DUE.is("of " + bytes + ", input(" + i + ")", line.x.input(i), i < bytes ? 0 : -1);
            }
            for (int i : new int[] {LEAST, -1, bytes, GREATEST}) {
                DUE.is("of " + bytes + ", input(" + i + ")", line.x.input(i), -1);
            }
            line.x.scan();
            for (int i : new int[] {LEAST, -1, 0, bytes, GREATEST}) {
                DUE.is("not set up, input(" + i + ")", line.x.input(i), -1);
            }
        }
    }

    private static void messages() {
        DUE.sentence("by a frame with command 5 to the address station + 1, offset 64: its counter");
        Line line = stations(6, 0, 0);
        line.x.scan();
        for (int s = 0; s < 6; s++) {
            DUE.is("ask(" + s + ", ..)", line.x.ask(s, 40 + s, 50 + s, 60 + s), 1);
            DUE.is("its address", line.got(-2), s + 1);
            DUE.is("six bytes", line.got(6), -1);
        }
        for (int s = 0; s < 6; s++) {
            isRow("plain bytes of station " + s, line, s + 1, 63, 0, 40 + s, 50 + s, 60 + s, 0, 0, 0, 0);
        }
        DUE.sentence("The master reads six bytes by a frame with command 4 from the address station + 1, offset 72: its counter");
        for (int s = 0; s < 6; s++) {
            line.send(5, s + 1, 71, 8, 9, 10 + s, 20 + s, 30 + s, 40 + s, 50 + s, 60 + s, 9);
        }
        for (int s = 0; s < 6; s++) {
            DUE.is("answer(" + s + ")", line.x.answer(s), 1);
            for (int i = 0; i < 6; i++) {
                DUE.is("byte " + i, line.got(i), 10 * (i + 1) + s);
            }
            DUE.is("six bytes", line.got(6), -1);
            DUE.is("its address", line.got(-2), s + 1);
        }
        line.send(2, 65531, 0, 1, 1);
        DUE.is("two stations are 1: ask(0, ..)", line.x.ask(0, 1, 1, 1), 2);
        DUE.is("two stations are 1: answer(0)", line.x.answer(0), 2);
        DUE.is("nobody is 6: ask(5, ..)", line.x.ask(5, 1, 1, 1), 0);
        DUE.is("nobody is 6: answer(5)", line.x.answer(5), 0);
    }

    private static void lowestBitsOfMessages() {
        DUE.sentence("(the lowest eight bits of kind and index, and value)");
        for (int v = 0; v < VALUES.length; v++) {
            Line line = Line.withOne(0, 0);
            int other = VALUES.length - 1 - v;
            line.x.ask(0, VALUES[v], VALUES[other], VALUES[v]);
            DUE.is("kind " + VALUES[v], line.got(0), LOWEST[v]);
            DUE.is("index " + VALUES[other], line.got(1), LOWEST[other]);
            long value = VALUES[v] & 0xffffffffL;
            for (int i = 0; i < 4; i++) {
                DUE.is("byte " + i + " of value " + VALUES[v], line.got(2 + i), value >> 8 * i & 255);
            }
        }
    }

    private static void askAndAnswerRefused() {
        DUE.sentence("Refused, -1, if there is no such station on the line (found or not).");
        for (int count = 0; count <= 6; count++) {
            for (int s : new int[] {LEAST, -2, -1, 0, 5, count - 1, count, 6, 7, 65535, GREATEST - 1, GREATEST}) {
                Line line = stations(count, 0, 0);
                line.x.request(1);
                boolean there = s >= 0 && s < count;
                DUE.is("of " + count + ", ask(" + s + ", ..)", line.x.ask(s, 2, 0, 0), there ? 0 : -1);
                DUE.is("RETURNED", line.got(5), there ? 0 : -1);
                DUE.is("RETURNED", line.got(-1), there ? 0 : count);
                line.x.request(1);
                DUE.is("of " + count + ", answer(" + s + ")", line.x.answer(s), there ? 0 : -1);
                DUE.is("RETURNED", line.got(5), there ? 0 : -1);
                DUE.is("RETURNED", line.got(-1), there ? 0 : count);
                line.x.spoil(0);
                line.x.ask(s, 2, 0, 0);
                DUE.is("the next frame is spoilt", line.x.request(1), there ? count : -1);
            }
        }
    }

    private static void askAndAnswerDoNotComeBack() {
        DUE.sentence("its counter; -1 if it does not come back.");
        for (int k = 0; k <= 2; k++) {
            Line line = stations(2, 0, 0);
            line.x.scan();
            line.x.spoil(k);
            DUE.is("spoil(" + k + "): ask(0, ..)", line.x.ask(0, 9, 9, 9), -1);
            DUE.is("nothing is RETURNED", line.got(-1), -1);
            DUE.is("byte 64 of station 0", line.peek(64), k == 0 ? 0 : 9);
            line.x.spoil(k);
            DUE.is("spoil(" + k + "): answer(0)", line.x.answer(0), -1);
            DUE.is("nothing is RETURNED", line.got(-1), -1);
        }
        Line line = stations(2, 0, 0);
        line.x.scan();
        line.x.cut(1, true);
        DUE.is("behind a break: ask(1, ..)", line.x.ask(1, 9, 9, 9), 0);
        DUE.is("behind a break: answer(1)", line.x.answer(1), 0);
        line.x.cut(0, true);
        DUE.is("a break before station 0: ask(0, ..)", line.x.ask(0, 9, 9, 9), -1);
        DUE.is("a break before station 0: answer(0)", line.x.answer(0), -1);
    }
}
