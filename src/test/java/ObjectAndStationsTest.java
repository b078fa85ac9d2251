/** Promises 1, 2, 10, 11 and 12. */
public final class ObjectAndStationsTest {
    private static final Due DUE = new Due();

    public static void main(String[] args) {
        newObject();
        numbersOfStations();
        refusedStations();
        sensors();
        actuators();
        states();
        DUE.end();
    }

    private static void newObject() {
        StationLine x = new StationLine();
        DUE.is("state(0) of a new object", x.state(0), -1);
        DUE.is("cut(0, true) of a new object", x.cut(0, true), false);
        DUE.is("send() of a new object", x.send(), -1);
        DUE.is("returned(0, -1) of a new object", x.returned(0, -1), -1);
        DUE.is("setup() of a new object", x.setup(), 0);
        DUE.is("cycle() of a new object", x.cycle(), -1);
        DUE.is("output(0, 1) of a new object", x.output(0, 1), false);
        DUE.is("input(0) of a new object", x.input(0), -1);
        DUE.is("ask(0, 2, 0, 0) of a new object", x.ask(0, 2, 0, 0), -1);
        DUE.is("answer(0) of a new object", x.answer(0), -1);
        x.tick();
        DUE.is("request(2) of a new object", x.request(2), 0);
        DUE.is("scan() of a new object", x.scan(), 0);
        DUE.is("returned(0, -1) after a scan of nothing", x.returned(0, -1), 0);

        StationLine found = new StationLine();
        found.station(1, 1);
        DUE.is("setup() before any scan", found.setup(), 0);
        DUE.is("cycle() before any scan", found.cycle(), -1);
        DUE.is("a new line is whole", found.request(1), 1);
    }

    private static void numbersOfStations() {
        StationLine x = new StationLine();
        int number = 0;
        for (int outputs = 0; outputs <= 2; outputs++) {
            for (int inputs = 1; inputs <= 2; inputs++) {
                DUE.is("station " + number, x.station(outputs, inputs), number);
                DUE.is("its last input", x.sense(number, inputs - 1, 1), true);
                DUE.is("an input too many", x.sense(number, inputs, 1), false);
                DUE.is("an output too many", x.actuator(number, outputs), -1);
                number++;
            }
        }
        DUE.is("a seventh station", x.station(1, 1), -1);
        DUE.is("six stations", x.scan(), 6);
    }

    private static void refusedStations() {
        StationLine x = new StationLine();
        int[][] wrong = {{-1, 0}, {3, 0}, {0, -1}, {0, 3}, {Integer.MIN_VALUE, 1}, {1, Integer.MAX_VALUE}};
        for (int[] numbers : wrong) {
            DUE.is("station(" + numbers[0] + ", " + numbers[1] + ")", x.station(numbers[0], numbers[1]), -1);
        }
        DUE.is("refused stations are not there", x.scan(), 0);
        DUE.is("station(0, 0)", x.station(0, 0), 0);
    }

    private static void sensors() {
        Line line = Line.inState(4, 0, 2);
        DUE.is("sensors say 0 at first", line.read(96, 2), 1);
        DUE.is("byte 0", line.got(0), 0);
        DUE.is("sense(0, 0, 511)", line.x.sense(0, 0, 511), true);
        DUE.is("sense(0, 1, -2)", line.x.sense(0, 1, -2), true);
        DUE.is("sense(0, 2, 9)", line.x.sense(0, 2, 9), false);
        DUE.is("sense(0, -1, 9)", line.x.sense(0, -1, 9), false);
        DUE.is("sense(1, 0, 9)", line.x.sense(1, 0, 9), false);
        DUE.is("sense(-1, 0, 9)", line.x.sense(-1, 0, 9), false);
        line.read(96, 2);
        DUE.is("before the tick", line.got(0), 0);
        line.x.tick();
        line.read(96, 2);
        DUE.is("the lowest eight bits", line.got(0), 255);
        DUE.is("the lowest eight bits", line.got(1), 254);
    }

    private static void actuators() {
        Line line = Line.inState(8, 2, 0);
        DUE.is("actuator(0, 0)", line.x.actuator(0, 0), 0);
        line.x.output(0, 11);
        line.x.output(1, 12);
        line.x.cycle();
        DUE.is("before the tick", line.x.actuator(0, 1), 0);
        line.x.tick();
        DUE.is("actuator(0, 0)", line.x.actuator(0, 0), 11);
        DUE.is("actuator(0, 1)", line.x.actuator(0, 1), 12);
        DUE.is("actuator(0, 2)", line.x.actuator(0, 2), -1);
        DUE.is("actuator(0, -1)", line.x.actuator(0, -1), -1);
        DUE.is("actuator(1, 0)", line.x.actuator(1, 0), -1);
        DUE.is("actuator(-1, 0)", line.x.actuator(-1, 0), -1);
        line.x.station(0, 2);
        DUE.is("an actuator of a station without outputs", line.x.actuator(1, 0), -1);
    }

    private static void states() {
        StationLine x = new StationLine();
        x.station(0, 0);
        DUE.is("state(0)", x.state(0), 1);
        DUE.is("state(1)", x.state(1), -1);
        DUE.is("state(-1)", x.state(-1), -1);
        x.request(7);
        DUE.is("before the tick", x.state(0), 1);
        x.tick();
        DUE.is("with an error", x.state(0), 17 + 256 * 18);
    }
}
