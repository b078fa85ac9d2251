/**
 * Promises 1 to 12, sentence by sentence: the last value inside and the first one outside of what a call takes,
 * and the least and the greatest int. The master's calls, 13 to 20, stand in BoundsOfMasterTest.
 */
public final class BoundsOfCallsTest {
    private static final Due DUE = new Due();
    private static final int LEAST = Due.LEAST;
    private static final int GREATEST = Due.GREATEST;
    private static final int[] COMMANDS = {1, 2, 4, 5, 7, 8, 10, 11, 12};

    public static void main(String[] args) {
        newObject();
        sixStations();
        numbersOfOutputsAndInputs();
        placesOfDatagrams();
        commands();
        addresses();
        offsets();
        offsetsWithoutMeaning();
        lengths();
        dataAtFirst();
        lowestBitsOfData();
        bytesOfData();
        sendsWhatIsReady();
        oneToThreeDatagrams();
        sendsNothing();
        masterLeavesWhatIsReady();
        returnedBytes();
        returnedNothing();
        cuts();
        spoils();
        ticks();
        senses();
        lowestBitsOfSensors();
        actuators();
        states();
        DUE.end();
    }

    private static Line stations(int count) {
        Line line = new Line();
        for (int s = 0; s < count; s++) {
            line.x.station(0, 0);
        }
        return line;
    }

    private static void newObject() {
        DUE.sentence("No stations, no break; the master found nothing.");
        for (int s : new int[] {LEAST, -1, 0, 1, 5, 6, GREATEST}) {
            StationLine x = new StationLine();
            DUE.is("state(" + s + ")", x.state(s), -1);
            DUE.is("actuator(" + s + ", 0)", x.actuator(s, 0), -1);
            DUE.is("sense(" + s + ", 0, 1)", x.sense(s, 0, 1), false);
            DUE.is("cut(" + s + ", false)", x.cut(s, false), false);
            DUE.is("ask(" + s + ", 2, 0, 0)", x.ask(s, 2, 0, 0), -1);
            DUE.is("answer(" + s + ")", x.answer(s), -1);
        }
        Line six = stations(6);
        DUE.is("no break: request(1)", six.x.request(1), 6);
        Line unseen = stations(6);
        DUE.is("nothing found: setup()", unseen.x.setup(), 0);
        DUE.is("setup() sent nothing", unseen.got(-1), -1);
    }

    private static void sixStations() {
        DUE.sentence("A new station at the end of the line, .. its number; -1, refused, if there are six");
        StationLine x = new StationLine();
        for (int s = 0; s < 6; s++) {
            DUE.is("before station " + s + ": state", x.state(s), -1);
            DUE.is("station(2, 2)", x.station(2, 2), s);
            DUE.is("behind station " + s + ": state", x.state(s), 1);
        }
        DUE.is("a seventh one", x.station(0, 0), -1);
        DUE.is("a seventh one", x.station(2, 2), -1);
        DUE.is("state(6)", x.state(6), -1);
        DUE.is("six do a frame", x.request(1), 6);
        DUE.is("the sixth one's last input", x.sense(5, 1, 1), true);
    }

    private static void numbersOfOutputsAndInputs() {
        DUE.sentence("-1, refused, if .. a number is not 0 .. 2");
        int[] numbers = {LEAST, -1, 0, 1, 2, 3, 256, GREATEST};
        for (int outputs : numbers) {
            for (int inputs : numbers) {
                boolean well = outputs >= 0 && outputs <= 2 && inputs >= 0 && inputs <= 2;
                StationLine x = new StationLine();
                String call = "station(" + outputs + ", " + inputs + ")";
                DUE.is(call, x.station(outputs, inputs), well ? 0 : -1);
                DUE.is(call + ": how many do a frame", x.request(1), well ? 1 : 0);
                for (int i = 0; i <= 2; i++) {
                    DUE.is(call + ": output " + i, x.actuator(0, i), well && i < outputs ? 0 : -1);
                    DUE.is(call + ": input " + i, x.sense(0, i, 1), well && i < inputs);
                }
                DUE.is(call + ": the next one", x.station(0, 0), well ? 1 : 0);
            }
        }
    }

    private static void placesOfDatagrams() {
        DUE.sentence("A datagram is appended .. its place, from 0. -1, refused, if three are there");
        for (int command : COMMANDS) {
            StationLine x = new StationLine();
            for (int place = 0; place < 3; place++) {
                DUE.is("command " + command, x.datagram(command, 10 + place, 0, 1), place);
            }
            DUE.is("a fourth one, command " + command, x.datagram(command, 99, 0, 8), -1);
            x.send();
            for (int place = 0; place < 3; place++) {
                DUE.is("address of " + place, x.returned(place, -2), 10 + place);
                DUE.is("one byte of " + place, x.returned(place, 1), -1);
            }
            DUE.is("there is no fourth one", x.returned(3, -2), -1);
            DUE.is("the next frame's first one", x.datagram(command, 0, 0, 1), 0);
        }
    }

    private static void commands() {
        DUE.sentence("-1, refused, if .. it is no command");
        int[] wrong = {LEAST, -1, 0, 3, 6, 9, 13, 14, 256 + 1, 65536 + 1, GREATEST};
        for (int command : wrong) {
            Line line = stations(1);
            DUE.is("command " + command, line.x.datagram(command, 0, 0, 1), -1);
            DUE.is("nothing is ready, command " + command, line.x.send(), -1);
        }
        for (int command : COMMANDS) {
            DUE.is("command " + command, stations(1).x.datagram(command, 0, 0, 1), 0);
        }
    }

    private static void addresses() {
        DUE.sentence("-1, refused, if .. address is not 0 .. 65535");
        for (int command : COMMANDS) {
            for (int address : new int[] {LEAST, -65536, -1, 65536, 65537, GREATEST}) {
                StationLine x = new StationLine();
                DUE.is("command " + command + ", address " + address, x.datagram(command, address, 0, 1), -1);
                DUE.is("nothing is ready", x.send(), -1);
            }
            for (int address : new int[] {0, 1, 65534, 65535}) {
                StationLine x = new StationLine();
                DUE.is("command " + command + ", address " + address, x.datagram(command, address, 0, 1), 0);
                x.send();
                DUE.is("its address", x.returned(0, -2), address);
            }
        }
    }

    private static void offsets() {
        DUE.sentence("-1, refused, if .. offset is not 0 .. 127");
        for (int command : new int[] {1, 2, 4, 5, 7, 8}) {
            for (int offset : new int[] {LEAST, -1, 128, 256, GREATEST}) {
                StationLine x = new StationLine();
                DUE.is("command " + command + ", offset " + offset, x.datagram(command, 0, offset, 1), -1);
                DUE.is("nothing is ready", x.send(), -1);
            }
            for (int offset : new int[] {0, 1, 126, 127}) {
                Line line = stations(1);
                DUE.is("command " + command + ", offset " + offset, line.x.datagram(command, 0, offset, 1), 0);
                line.x.send();
                DUE.is("its counter", line.got(-1), 1);
            }
        }
    }

    private static void offsetsWithoutMeaning() {
        DUE.sentence("(for 10, 11, 12 it is of no meaning)");
        for (int command = 10; command <= 12; command++) {
            for (int offset : new int[] {LEAST, -1, 0, 127, 128, GREATEST}) {
                Line line = Line.withOne(0, 0);
                line.write(8, 0, 0, 8, 100, 0, 3);
                line.write(100, 5);
                int due = command == 10 ? 1 : command == 11 ? 1 : 3;
                DUE.is("command " + command + ", offset " + offset, line.send(command, 0, offset, 1, 9), due);
                DUE.is("byte 100", line.peek(100), command == 10 ? 5 : 9);
            }
        }
    }

    private static void lengths() {
        DUE.sentence("-1, refused, if .. length is not 1 .. 8");
        for (int command : COMMANDS) {
            for (int length : new int[] {LEAST, -1, 0, 9, 256 + 1, GREATEST}) {
                StationLine x = new StationLine();
                DUE.is("command " + command + ", length " + length, x.datagram(command, 0, 0, length), -1);
                DUE.is("nothing is ready", x.send(), -1);
            }
            for (int length = 1; length <= 8; length++) {
                StationLine x = new StationLine();
                DUE.is("command " + command + ", length " + length, x.datagram(command, 0, 0, length), 0);
                DUE.is("its last byte", x.data(0, length - 1, 7), true);
                DUE.is("the byte behind", x.data(0, length, 7), false);
                x.send();
                DUE.is("its last byte", x.returned(0, length - 1), 7);
                DUE.is("the byte behind", x.returned(0, length), -1);
            }
        }
    }

    private static void dataAtFirst() {
        DUE.sentence("with data 0");
        StationLine x = new StationLine();
        for (int round = 0; round < 3; round++) {
            for (int d = 0; d < 3; d++) {
                x.datagram(4, 9, 0, 8);
            }
            x.send();
            for (int d = 0; d < 3; d++) {
                for (int i = 0; i < 8; i++) {
                    DUE.is("round " + round + ": byte " + i + " of " + d, x.returned(d, i), 0);
                }
                DUE.is("round " + round + ": counter of " + d, x.returned(d, -1), 0);
            }
            for (int d = 0; d < 3; d++) {
                x.datagram(4, 9, 0, 8);
                for (int i = 0; i < 8; i++) {
                    x.data(d, i, 255);
                }
            }
            x.send();
        }
    }

    private static void lowestBitsOfData() {
        DUE.sentence("Byte i of the data .. becomes the lowest eight bits of value");
        int[] values = {LEAST, -257, -256, -1, 0, 1, 127, 128, 255, 256, 257, GREATEST};
        int[] due = {0, 255, 0, 255, 0, 1, 127, 128, 255, 0, 1, 255};
        for (int v = 0; v < values.length; v++) {
            StationLine x = new StationLine();
            x.datagram(4, 9, 0, 2);
            x.data(0, 0, 77);
            DUE.is("data(0, 0, " + values[v] + ")", x.data(0, 0, values[v]), true);
            x.send();
            DUE.is("data(0, 0, " + values[v] + "): byte 0", x.returned(0, 0), due[v]);
            DUE.is("data(0, 0, " + values[v] + "): byte 1", x.returned(0, 1), 0);
        }
    }

    private static void bytesOfData() {
        DUE.sentence("false, refused, if there is no such byte.");
        for (int d : new int[] {LEAST, -1, 0, 1, 2, 3, GREATEST}) {
            for (int i : new int[] {LEAST, -2, -1, 0, 1, 2, 7, 8, GREATEST}) {
                StationLine x = new StationLine();
                String call = "data(" + d + ", " + i + ", 1)";
                DUE.is(call + " with none ready", x.data(d, i, 1), false);
                x.datagram(4, 9, 0, 8);
                x.datagram(4, 9, 0, 2);
                boolean well = d == 0 && i >= 0 && i < 8 || d == 1 && i >= 0 && i < 2;
                DUE.is(call, x.data(d, i, 1), well);
                x.send();
                int sum = 0;
                for (int at = 0; at < 8; at++) {
                    sum += x.returned(0, at) + (at < 2 ? x.returned(1, at) : 0);
                }
                DUE.is(call + ": the sum of all bytes", sum, well ? 1 : 0);
                DUE.is(call + " when it was sent", x.data(d, i, 1), false);
            }
        }
    }

    private static void sendsWhatIsReady() {
        DUE.sentence("The frame that was made ready .. is sent; none is ready then. 1 if it comes back, else 0");
        for (int k = 0; k <= 2; k++) {
            Line line = stations(2);
            line.x.datagram(7, 0, 2, 1);
            line.x.spoil(k);
            DUE.is("spoilt before " + k + ": send()", line.x.send(), 0);
            DUE.is("none is ready then", line.x.send(), -1);
            DUE.is("none is ready then", line.x.data(0, 0, 1), false);
            DUE.is("the first of the next frame", line.x.datagram(7, 0, 2, 1), 0);
            DUE.is("the next frame", line.x.send(), 1);
        }
        Line line = stations(2);
        line.x.datagram(7, 0, 2, 1);
        line.x.cut(1, true);
        DUE.is("a break before station 1: send()", line.x.send(), 1);
        line.x.datagram(7, 0, 2, 1);
        line.x.cut(0, true);
        DUE.is("a break before station 0: send()", line.x.send(), 0);
        DUE.is("none is ready then", line.x.send(), -1);
    }

    private static void oneToThreeDatagrams() {
        DUE.sentence("a COUNTER, 0 at first. A FRAME has 1 to 3 of them.");
        for (int size = 0; size <= 4; size++) {
            Line line = stations(2);
            for (int d = 0; d < size; d++) {
                line.x.datagram(d % 2 == 0 ? 7 : 4, 9, 2, 1);
            }
            DUE.is(size + " datagrams: send()", line.x.send(), size == 0 ? -1 : 1);
            for (int d = 0; d < 4; d++) {
                int due = d >= Math.min(size, 3) ? -1 : d % 2 == 0 ? 2 : 0;
                DUE.is(size + " datagrams: counter of " + d, line.x.returned(d, -1), due);
            }
        }
    }

    private static void sendsNothing() {
        DUE.sentence("-1, refused, if it has no datagrams.");
        Line line = stations(1);
        DUE.is("send() at first", line.x.send(), -1);
        line.x.datagram(7, 0, 2, 1);
        line.x.send();
        line.x.spoil(1);
        DUE.is("send() again", line.x.send(), -1);
        DUE.is("RETURNED is what it was", line.got(0), 1);
        DUE.is("the next frame is spoilt", line.x.request(1), -1);
        DUE.is("send() after the master's frames", line.x.send(), -1);
    }

    private static void masterLeavesWhatIsReady() {
        DUE.sentence("(frames that the master sends by other calls do not change it)");
        for (int ready = 0; ready <= 3; ready++) {
            Line line = new Line();
            StationLine x = line.x;
            x.station(2, 2);
            x.station(2, 2);
            for (int d = 0; d < ready; d++) {
                x.datagram(4, 200 + d, 0, 8);
                for (int i = 0; i < 8; i++) {
                    x.data(d, i, 10 * d + i);
                }
            }
            String what = ready + " datagrams are ready: ";
            DUE.is(what + "scan()", x.scan(), 2);
            DUE.is(what + "setup()", x.setup(), 2);
            DUE.is(what + "request(2)", x.request(2), 2);
            x.tick();
            DUE.is(what + "request(4)", x.request(4), 2);
            x.tick();
            DUE.is(what + "cycle()", x.cycle(), 0);
            DUE.is(what + "ask(1, 2, 1, 0)", x.ask(1, 2, 1, 0), 1);
            x.tick();
            DUE.is(what + "answer(1)", x.answer(1), 1);
            DUE.is(what + "send()", x.send(), ready == 0 ? -1 : 1);
            for (int d = 0; d < ready; d++) {
                DUE.is(what + "address", x.returned(d, -2), 200 + d);
                DUE.is(what + "counter", x.returned(d, -1), 0);
                for (int i = 0; i < 8; i++) {
                    DUE.is(what + "byte " + i + " of " + d, x.returned(d, i), 10 * d + i);
                }
            }
            DUE.is(what + "none behind them", x.returned(ready, -2), ready == 0 ? 2 : -1);
        }
    }

    private static void returnedBytes() {
        DUE.sentence("byte i of its data; its counter if i is -1; its address if i is -2. -1 if there is no such one");
        Line line = stations(3);
        line.send(8, 0, 100, 8, 10, 11, 12, 13, 14, 15, 16, 17);
        line.x.datagram(7, 65535, 100, 8);
        line.x.datagram(4, 300, 0, 1);
        line.x.data(1, 0, 255);
        line.x.send();
        for (int i = 0; i < 8; i++) {
            DUE.is("returned(0, " + i + ")", line.x.returned(0, i), 10 + i);
        }
        DUE.is("returned(0, -1)", line.x.returned(0, -1), 3);
        DUE.is("returned(0, -2)", line.x.returned(0, -2), 2);
        DUE.is("returned(1, 0)", line.x.returned(1, 0), 255);
        DUE.is("returned(1, -1)", line.x.returned(1, -1), 0);
        DUE.is("returned(1, -2)", line.x.returned(1, -2), 300);
        for (int i : new int[] {LEAST, -3, 8, 9, GREATEST}) {
            DUE.is("returned(0, " + i + ")", line.x.returned(0, i), -1);
        }
        DUE.is("returned(1, 1)", line.x.returned(1, 1), -1);
        DUE.is("returned(1, -3)", line.x.returned(1, -3), -1);
        for (int d : new int[] {LEAST, -1, 2, 3, GREATEST}) {
            for (int i : new int[] {-2, -1, 0}) {
                DUE.is("returned(" + d + ", " + i + ")", line.x.returned(d, i), -1);
            }
        }
    }

    private static void returnedNothing() {
        DUE.sentence("-1 .. if .. nothing is RETURNED.");
        Line line = stations(1);
        for (int round = 0; round < 2; round++) {
            for (int d = -1; d <= 3; d++) {
                for (int i = -3; i <= 8; i++) {
                    DUE.is("returned(" + d + ", " + i + ")", line.x.returned(d, i), -1);
                }
            }
            line.x.cut(0, false);
            line.x.request(1);
            DUE.is("the counter of a frame that came back", line.got(-1), 1);
            line.x.cut(0, true);
            line.x.request(1);
        }
    }

    private static void cuts() {
        DUE.sentence("The cable before station k is broken, or whole again; false, refused, if there is no such station.");
        for (int count = 0; count <= 6; count++) {
            for (int k : new int[] {LEAST, -1, 0, 1, 2, 3, 4, 5, 6, GREATEST}) {
                boolean well = k >= 0 && k < count;
                Line line = stations(count);
                String call = "of " + count + ", cut(" + k + ", ";
                DUE.is(call + "true)", line.x.cut(k, true), well);
                DUE.is(call + "true): a frame", line.x.request(1), !well ? count : k == 0 ? -1 : k);
                DUE.is(call + "true) again", line.x.cut(k, true), well);
                DUE.is(call + "false)", line.x.cut(k, false), well);
                DUE.is(call + "false): a frame", line.x.request(1), count);
                DUE.is(call + "false) again", line.x.cut(k, false), well);
            }
        }
        Line grown = stations(1);
        DUE.is("cut(1, true) of one", grown.x.cut(1, true), false);
        grown.x.station(0, 0);
        DUE.is("it is whole before the new station", grown.x.request(1), 2);
        DUE.is("cut(1, true) of two", grown.x.cut(1, true), true);
    }

    private static void spoils() {
        DUE.sentence("false, refused, if k is not 0 .. the number of stations.");
        for (int count = 0; count <= 6; count++) {
            for (int k : new int[] {LEAST, -1, 0, 1, 2, 3, 4, 5, 6, 7, GREATEST}) {
                boolean well = k >= 0 && k <= count;
                Line line = stations(count);
                String call = "of " + count + ", spoil(" + k + ")";
                DUE.is(call, line.x.spoil(k), well);
                DUE.is(call + ": the next frame", line.x.request(7), well ? -1 : count);
                line.x.tick();
                for (int s = 0; s < count; s++) {
                    DUE.is(call + ": station " + s, line.x.state(s), well && s >= k ? 1 : 17 + 256 * 18);
                }
                DUE.is(call + ": that frame alone", line.x.request(7), count);
            }
        }
    }

    private static void ticks() {
        DUE.sentence("Each station, in their order, makes its tick.");
        StationLine none = new StationLine();
        none.tick();
        DUE.is("a tick of no station: the next call", none.scan(), 0);
        for (int count = 1; count <= 6; count++) {
            Line line = stations(count);
            line.x.request(7);
            for (int s = 0; s < count; s++) {
                DUE.is("before the tick, station " + s + " of " + count, line.x.state(s), 1);
            }
            line.x.tick();
            for (int s = 0; s < count; s++) {
                DUE.is("behind the tick, station " + s + " of " + count, line.x.state(s), 17 + 256 * 18);
            }
        }
    }

    private static void senses() {
        DUE.sentence("Sensor i of a station says ..; false, refused, if there is no such station or input.");
        for (int inputs = 0; inputs <= 2; inputs++) {
            for (int s : new int[] {LEAST, -1, 0, 1, 2, 6, GREATEST}) {
                for (int i : new int[] {LEAST, -1, 0, 1, 2, GREATEST}) {
                    Line line = Line.inState(4, 2, inputs);
                    line.x.station(0, 0);
                    boolean well = s == 0 && i >= 0 && i < inputs;
                    String call = "of " + inputs + ", sense(" + s + ", " + i + ", 9)";
                    DUE.is(call, line.x.sense(s, i, 9), well);
                    line.x.tick();
                    for (int at = 0; at < inputs; at++) {
                        line.read(96, inputs);
                        DUE.is(call + ": sensor " + at, line.got(at), well && at == i ? 9 : 0);
                    }
                }
            }
        }
    }

    private static void lowestBitsOfSensors() {
        DUE.sentence("says the lowest eight bits of value from now on (0 at first)");
        int[] values = {LEAST, -256, -1, 0, 1, 255, 256, 257, GREATEST};
        int[] due = {0, 0, 255, 0, 1, 255, 0, 1, 255};
        for (int v = 0; v < values.length; v++) {
            Line line = Line.inState(4, 0, 1);
            DUE.is("at first", line.peek(96), 0);
            DUE.is("sense(0, 0, " + values[v] + ")", line.x.sense(0, 0, values[v]), true);
            DUE.is("before a tick", line.peek(96), 0);
            for (int tick = 1; tick <= 2; tick++) {
                line.x.tick();
                DUE.is("sense(0, 0, " + values[v] + "), tick " + tick, line.peek(96), due[v]);
            }
        }
    }

    private static void actuators() {
        DUE.sentence("Actuator i of a station; -1 if there is no such station or output.");
        for (int outputs = 0; outputs <= 2; outputs++) {
            Line line = Line.inState(8, outputs, 2);
            if (outputs > 0) {
                line.write(80, outputs == 1 ? new int[] {41} : new int[] {41, 42});
            }
            line.x.tick();
            for (int s : new int[] {LEAST, -1, 0, 1, 6, GREATEST}) {
                for (int i : new int[] {LEAST, -1, 0, 1, 2, GREATEST}) {
                    boolean well = s == 0 && i >= 0 && i < outputs;
                    DUE.is("of " + outputs + ", actuator(" + s + ", " + i + ")", line.x.actuator(s, i), well ? 41 + i : -1);
                }
            }
        }
    }

    private static void states() {
        DUE.sentence("STATUS + 256 * CODE of a station; -1 if there is no such one.");
        Line line = stations(6);
        line.send(2, 65531, 1, 1, 8);
        line.x.tick();
        for (int s = 0; s < 6; s++) {
            DUE.is("state(" + s + ")", line.x.state(s), s == 5 ? 17 + 256 * 17 : 1);
        }
        for (int s : new int[] {LEAST, -1, 6, 7, GREATEST}) {
            DUE.is("state(" + s + ")", line.x.state(s), -1);
        }
    }
}
