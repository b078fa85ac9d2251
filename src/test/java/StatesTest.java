/** Promises 9 and 12, step 1 of a station's tick: requests and errors. */
public final class StatesTest {
    private static final Due DUE = new Due();
    private static final int ERROR = 16;

    public static void main(String[] args) {
        requests();
        onlyOnce();
        errorsStay();
        ready();
        safe();
        safeWithoutOutputsOrInputs();
        run();
        runAfterLowerStates();
        eachStation();
        DUE.end();
    }

    private static int error(int state, int code) {
        return state + ERROR + 256 * code;
    }

    /** From every state every request: what the document's step 1 says of a station that is set up. */
    private static void requests() {
        for (int from = 1; from <= 8; from *= 2) {
            for (int control = 0; control < 256; control++) {
                int wanted = control & 15;
                boolean state = wanted == 1 || wanted == 2 || wanted == 4 || wanted == 8;
                int due = !state ? error(from, 18) : wanted > 2 * from ? error(from, 17) : wanted;
                Line line = Line.inState(from, 1, 1);
                DUE.is("the state", line.state(), from);
                if (from == 4) {
                    line.x.cycle();
                }
                DUE.is("from " + from + ", control " + control, line.control(control), due);
            }
        }
        Line line = Line.inState(1, 0, 0);
        DUE.is("the lowest eight bits of control", line.control(256 + 2), 2);
        DUE.is("its byte", line.peek(1), 2);
    }

    private static void onlyOnce() {
        Line line = Line.inState(1, 0, 0);
        line.control(2);
        line.write(32, 0);
        line.x.tick();
        DUE.is("a tick without a request", line.state(), 2);
        line.x.request(4);
        line.x.request(1);
        line.x.tick();
        DUE.is("the latest of two requests", line.state(), 1);
        DUE.is("a channel is closed", line.control(18), error(1, 22));
        line.write(32, 64);
        line.x.tick();
        DUE.is("a request is not done again", line.state(), error(1, 22));
        Line other = Line.inState(1, 0, 0);
        other.write(1, 2);
        other.x.tick();
        DUE.is("CONTROL by another frame", other.state(), 2);
        other.read(1, 1);
        other.x.request(4);
        other.write(2, 1);
        other.x.tick();
        DUE.is("STATUS is what frames read", other.peek(2), 4);
    }

    private static void errorsStay() {
        Line line = Line.inState(1, 0, 0);
        DUE.is("control 4", line.control(4), error(1, 17));
        DUE.is("STATUS", line.peek(2), 17);
        DUE.is("CODE", line.peek(3), 17);
        DUE.is("control 2 with an error", line.control(2), error(1, 17));
        line.x.tick();
        DUE.is("it is not done later", line.state(), error(1, 17));
        DUE.is("another error needs bit 4 too", line.control(0), error(1, 17));
        DUE.is("bit 5 is not bit 4", line.control(34), error(1, 17));
        DUE.is("another error", line.control(16), error(1, 18));
        DUE.is("one more", line.control(24), error(1, 17));
        DUE.is("with bit 4", line.control(18), 2);
        DUE.is("CODE", line.peek(3), 0);
        line.control(8);
        DUE.is("an error in READY", line.state(), error(2, 17));
        DUE.is("the present state", line.control(18), 2);
        line.control(8);
        DUE.is("a lower state", line.control(17), 1);
    }

    private static void ready() {
        int[][] wrong = {{32, 63}, {33, 5}, {33, 7}, {34, 1}, {35, 0}, {35, 2}, {36, 200}, {37, 8}, {38, 3}, {39, 0}};
        for (int[] byteAndValue : wrong) {
            Line line = Line.inState(1, 1, 1);
            int before = line.peek(byteAndValue[0]);
            line.write(byteAndValue[0], byteAndValue[1]);
            String what = byteAndValue[0] + " is " + byteAndValue[1];
            DUE.is(what, line.control(2), error(1, 22));
            line.write(byteAndValue[0], before);
            DUE.is(what + " no more", line.control(18), 2);
            line.write(byteAndValue[0], byteAndValue[1]);
            DUE.is(what + ", but it is READY", line.control(2), 2);
        }
        Line line = Line.inState(1, 1, 1);
        line.write(40, 0, 0, 0, 0, 0, 0, 0, 0);
        DUE.is("channels 2 and 3 do not matter", line.control(2), 2);
    }

    private static void safe() {
        int[][] wrong = {
            {40, 63, 29}, {41, 1, 29}, {41, 3, 29}, {42, 0, 29}, {43, 0, 29}, {43, 2, 29},
            {44, 128, 30}, {45, 2, 30}, {45, 0, 30}, {46, 2, 30}, {47, 0, 30}, {47, 3, 30}};
        for (int[] w : wrong) {
            Line line = Line.inState(2, 2, 1);
            int before = line.peek(w[0]);
            line.write(w[0], w[1]);
            DUE.is(w[0] + " is " + w[1], line.control(4), error(2, w[2]));
            line.write(w[0], before);
            DUE.is(w[0] + " is " + before, line.control(20), 4);
        }
        Line line = Line.inState(2, 2, 1);
        line.write(43, 0, 96, 1, 0, 0);
        DUE.is("both are wrong", line.control(4), error(2, 29));
        Line mail = Line.inState(2, 2, 1);
        mail.write(32, 0, 0, 0, 0, 0, 0, 0, 0);
        DUE.is("channels 0 and 1 do not matter", mail.control(4), 4);
    }

    private static void safeWithoutOutputsOrInputs() {
        Line line = Line.inState(2, 0, 0);
        line.write(43, 1);
        DUE.is("ON of channel 2 is 1", line.control(4), error(2, 29));
        line.write(40, 80, 1, 2, 1);
        DUE.is("an open channel 2", line.control(20), error(2, 29));
        line.write(43, 2);
        DUE.is("ON of channel 2 is 2", line.control(20), error(2, 29));
        line.write(43, 0);
        line.write(47, 1);
        DUE.is("ON of channel 3 is 1", line.control(20), error(2, 30));
        line.write(44, 3, 3, 3, 0);
        DUE.is("ON is 0", line.control(20), 4);
        DUE.is("RUN without outputs", line.control(8), 8);
    }

    private static void run() {
        Line line = Line.inState(2, 1, 0);
        line.x.cycle();
        line.x.request(4);
        line.x.cycle();
        line.x.tick();
        DUE.is("outputs before SAFE", line.control(8), error(4, 27));
        line.x.cycle();
        DUE.is("outputs since SAFE", line.control(24), 8);
        Line part = Line.inState(4, 2, 0);
        part.write(80, 1);
        DUE.is("the first byte alone", part.control(8), error(4, 27));
        part.write(81, 1);
        DUE.is("the last byte", part.control(24), 8);
        Line cleared = Line.inState(4, 1, 0);
        cleared.x.cycle();
        cleared.write(42, 2);
        DUE.is("the channel was cleared", cleared.control(8), error(4, 27));
        cleared.x.cycle();
        DUE.is("and written anew", cleared.control(24), 8);
        Line other = Line.inState(4, 2, 0);
        other.write(41, 1);
        other.write(80, 1);
        DUE.is("another LENGTH, written", other.control(8), 8);
        Line again = Line.inState(4, 1, 0);
        again.x.cycle();
        DUE.is("SAFE once more", again.control(4), 4);
        DUE.is("it was not entered from READY", again.control(8), 8);
    }

    private static void runAfterLowerStates() {
        Line line = Line.inState(8, 1, 0);
        DUE.is("RUN to SAFE", line.control(4), 4);
        DUE.is("and back, without a new output", line.control(8), 8);
        DUE.is("RUN to READY", line.control(2), 2);
        line.control(4);
        DUE.is("SAFE from READY: a new output is due", line.control(8), error(4, 27));
        line.x.cycle();
        DUE.is("with one", line.control(24), 8);
        DUE.is("RUN to INIT", line.control(1), 1);
        line.control(2);
        line.control(4);
        DUE.is("from INIT likewise", line.control(8), error(4, 27));
    }

    private static void eachStation() {
        StationLine x = new StationLine();
        x.station(1, 0);
        x.station(0, 1);
        x.station(0, 0);
        x.scan();
        x.setup();
        x.cut(2, true);
        x.request(2);
        x.tick();
        DUE.is("station 0", x.state(0), 2);
        DUE.is("station 1", x.state(1), 2);
        DUE.is("station 2", x.state(2), 1);
        x.cut(2, false);
        x.request(4);
        x.tick();
        DUE.is("station 1", x.state(1), 4);
        DUE.is("station 2", x.state(2), error(1, 17));
        x.request(8);
        x.tick();
        DUE.is("station 0 without an output", x.state(0), error(4, 27));
        DUE.is("station 1 without outputs", x.state(1), 8);
    }
}
