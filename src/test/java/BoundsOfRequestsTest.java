/** Step 1 of "A STATION'S TICK", sentence by sentence: every request, every error, and what READY, SAFE and RUN ask for. */
public final class BoundsOfRequestsTest {
    private static final Due DUE = new Due();
    private static final int NO_FRESH_OUTPUTS = 20 + 256 * 27;

    public static void main(String[] args) {
        statusAndCode();
        withoutAnError();
        withAnError();
        sinceTheLatestTick();
        writtenByAnyFrame();
        lowerStates();
        readyNeedsBoxes();
        safeNeedsOutputs();
        safeNeedsInputs();
        outputsBeforeInputs();
        runWithoutOutputs();
        runNeedsWritten();
        runNeedsRenewalSinceSafe();
        runNeedsRenewalSinceTheWatch();
        safeThatIsNotEnteredFromReady();
        errorsLeaveTheState();
        DUE.end();
    }

    private static int error(int state, int code) {
        return state + 16 + 256 * code;
    }

    /** What a request does to a station that is set up, if nothing else is against it. */
    private static int due(int from, int r) {
        if (r != 1 && r != 2 && r != 4 && r != 8) {
            return error(from, 18);
        }
        return r > 2 * from ? error(from, 17) : r;
    }

    /** In this state, with one output and one input, and ready for RUN if it is SAFE. */
    private static Line in(int state) {
        Line line = Line.inState(state, 1, 1);
        line.write(80, 1);
        return line;
    }

    private static void statusAndCode() {
        DUE.sentence("STATUS is that, and 16 more while there is an ERROR (whose code is CODE; 0 without one).");
        for (int state = 1; state <= 8; state *= 2) {
            Line line = in(state);
            DUE.is("STATUS in " + state, line.peek(2), state);
            DUE.is("CODE in " + state, line.peek(3), 0);
            line.control(0);
            DUE.is("STATUS in " + state + " with an error", line.peek(2), state + 16);
            DUE.is("CODE in " + state + " with an error", line.peek(3), 18);
            line.control(16 + state);
            DUE.is("STATUS in " + state + " without it", line.peek(2), state);
            DUE.is("CODE in " + state + " without it", line.peek(3), 0);
        }
    }

    private static void withoutAnError() {
        DUE.sentence("its lowest four bits r are a request: no state: error 18. .. Otherwise, more than one step up: error 17.");
        for (int from = 1; from <= 8; from *= 2) {
            for (int control = 0; control < 256; control++) {
                Line line = in(from);
                DUE.is("from " + from + ", CONTROL " + control, line.control(control), due(from, control % 16));
                DUE.is("CONTROL stays what it is", line.peek(1), control);
                line.x.tick();
                DUE.is("it is done once", line.state(), due(from, control % 16));
            }
        }
    }

    private static void withAnError() {
        DUE.sentence("if there is an error and CONTROL has not bit 4, nothing; else there is no error any more");
        for (int from = 1; from <= 8; from *= 2) {
            for (int control = 0; control < 256; control++) {
                Line line = in(from);
                DUE.is("an error", line.control(3), error(from, 18));
                boolean bit = (control & 16) != 0;
                int due = bit ? due(from, control % 16) : error(from, 18);
                DUE.is("from " + from + " with an error, CONTROL " + control, line.control(control), due);
            }
        }
        Line line = in(1);
        DUE.is("error 17", line.control(8), error(1, 17));
        DUE.is("without bit 4 it stays 17", line.control(3), error(1, 17));
        line.x.tick();
        DUE.is("the request is not done later", line.control(2), error(1, 17));
        DUE.is("with bit 4 it is another one", line.control(16 + 3), error(1, 18));
        DUE.is("with bit 4 it is gone", line.control(16 + 1), 1);
    }

    private static void sinceTheLatestTick() {
        DUE.sentence("If CONTROL was written by a frame since its latest tick");
        Line line = in(1);
        line.x.tick();
        DUE.is("CONTROL was not written", line.state(), 1);
        line.x.request(2);
        DUE.is("before the tick", line.state(), 1);
        line.x.tick();
        DUE.is("behind the tick", line.state(), 2);
        line.x.request(4);
        line.x.request(8);
        line.x.tick();
        DUE.is("the latest of two", line.state(), error(2, 17));
        line.x.request(2);
        line.x.tick();
        line.x.request(18);
        line.x.tick();
        DUE.is("the error is gone", line.state(), 2);
        line.write(39, 0);
        line.control(1);
        DUE.is("INIT", line.state(), 1);
        DUE.is("the same value again, with another answer", line.control(2), error(1, 22));
        line.write(39, 1);
        line.x.tick();
        DUE.is("CONTROL is still 2, but was not written", line.state(), error(1, 22));
        line.write(39, 0);
        DUE.is("with bit 4, and the same answer", line.control(18), error(1, 22));
        line.write(39, 1);
        line.x.tick();
        DUE.is("CONTROL is still 18, but was not written", line.state(), error(1, 22));
        line.x.spoil(0);
        line.x.request(18);
        line.x.tick();
        DUE.is("a frame that did not get there", line.state(), error(1, 22));
        DUE.is("CONTROL", line.peek(1), 18);
        line.control(18);
        line.control(4);
        line.write(4, 1);
        line.write(80, 1);
        DUE.is("RUN by CONTROL 24", line.control(24), 8);
        line.x.tick();
        DUE.is("the watch", line.state(), NO_FRESH_OUTPUTS);
        line.write(80, 1);
        line.x.tick();
        DUE.is("CONTROL is still 24, but was not written", line.state(), NO_FRESH_OUTPUTS);
    }

    private static void writtenByAnyFrame() {
        DUE.sentence("If CONTROL was written by a frame");
        int[][] rows = {{0, 2}, {1, 1}, {1, 8}, {0, 8}};
        for (int command : new int[] {2, 5, 8}) {
            for (int[] row : rows) {
                Line line = in(1);
                int[] bytes = new int[row[1]];
                bytes[0] = 1;
                bytes[1 - row[0]] = 2;
                line.send(command, command == 5 ? 1 : 0, row[0], row[1], bytes);
                line.x.tick();
                DUE.is("command " + command + ", " + row[1] + " bytes from " + row[0], line.state(), 2);
            }
            Line beside = in(1);
            beside.send(command, command == 5 ? 1 : 0, 0, 1, 1);
            beside.send(command, command == 5 ? 1 : 0, 2, 6, 2, 2, 2, 2, 2, 2);
            beside.x.tick();
            DUE.is("command " + command + ", the bytes beside it", beside.state(), 1);
        }
        for (int command = 11; command <= 12; command++) {
            Line line = in(1);
            line.write(8, 0, 0, 1, 1, 1, 2);
            line.send(command, 0, 0, 1, 1);
            line.x.tick();
            DUE.is("command " + command + ", one bit of it", line.state(), 2);
        }
        Line read = in(1);
        read.write(1, 2);
        read.x.tick();
        read.write(39, 0);
        read.read(1, 1);
        read.x.tick();
        DUE.is("reading is not writing", read.state(), 2);
    }

    private static void lowerStates() {
        DUE.sentence("The present state, or a lower one: it is that now.");
        for (int from = 1; from <= 8; from *= 2) {
            for (int r = 1; r <= from; r *= 2) {
                Line line = in(from);
                line.write(32, 0, 0, 0, 0, 0, 0, 0, 0);
                line.write(40, 0, 0, 0, 9, 0, 0, 0, 9);
                DUE.is("from " + from + " to " + r + ", whatever the channels are", line.control(r), r);
                line.control(3);
                DUE.is("with an error", line.control(16 + r), r);
            }
        }
    }

    private static boolean isOpen(int[] channel) {
        int end = channel[0] + channel[1];
        return channel[3] == 1 && channel[0] >= 64 && channel[1] >= 1 && channel[1] <= 8 && end <= 128;
    }

    private static void readyNeedsBoxes() {
        DUE.sentence("READY: error 22 unless channels 0 and 1 are open with the modes 3 and 1 and LENGTH 6.");
        int[][] boxes = {{64, 6, 3, 1}, {72, 6, 1, 1}};
        for (int c = 0; c < 2; c++) {
            for (int start : new int[] {0, 63, 64, 90, 122, 123, 128, 255}) {
                for (int length : new int[] {0, 5, 6, 7, 8, 9}) {
                    for (int mode = 0; mode <= 4; mode++) {
                        for (int on : new int[] {0, 1, 2, 255}) {
                            int[] channel = {start, length, mode, on};
                            boolean well = isOpen(channel) && mode == boxes[c][2] && length == 6;
                            Line line = Line.withOne(2, 2);
                            line.write(32 + 4 * (1 - c), boxes[1 - c]);
                            line.write(32 + 4 * c, channel);
                            String what = "channel " + c + ": " + start + ", " + length + ", " + mode + ", " + on;
                            DUE.is(what, line.control(2), well ? 2 : error(1, 22));
                        }
                    }
                }
            }
        }
        Line same = Line.withOne(0, 0);
        same.write(32, 64, 6, 3, 1, 64, 6, 1, 1);
        DUE.is("both in the same bytes", same.control(2), 2);
    }

    private static void safeNeedsOutputs() {
        DUE.sentence("SAFE: error 29 unless channel 2 is open with mode 2 and LENGTH is the number of outputs (ON is 0, if there are none)");
        safeNeeds(2, 2, 29);
    }

    private static void safeNeedsInputs() {
        DUE.sentence("then error 30 unless channel 3 likewise with mode 0 and the inputs.");
        safeNeeds(3, 0, 30);
    }

    private static void safeNeeds(int c, int wantedMode, int code) {
        for (int number = 0; number <= 2; number++) {
            for (int start : new int[] {0, 63, 64, 126, 127, 128}) {
                for (int length = 0; length <= 3; length++) {
                    for (int mode = 0; mode <= 4; mode++) {
                        for (int on : new int[] {0, 1, 2, 255}) {
                            int[] channel = {start, length, mode, on};
                            boolean asWanted = isOpen(channel) && mode == wantedMode && length == number;
                            boolean well = number == 0 ? on == 0 : asWanted;
                            Line line = Line.inState(2, c == 2 ? number : 1, c == 3 ? number : 1);
                            line.write(32 + 4 * c, channel);
                            String what = "of " + number + ", channel " + c + ": " + start + ", " + length + ", " + mode + ", " + on;
                            DUE.is(what, line.control(4), well ? 4 : error(2, code));
                        }
                    }
                }
            }
        }
    }

    private static void outputsBeforeInputs() {
        DUE.sentence("error 29 ..; then error 30");
        Line line = Line.inState(2, 1, 1);
        line.write(43, 0);
        line.write(47, 0);
        DUE.is("both are wrong", line.control(4), error(2, 29));
        line.write(43, 1);
        DUE.is("one is wrong", line.control(20), error(2, 30));
        line.write(47, 1);
        DUE.is("none is wrong", line.control(20), 4);
        Line none = Line.inState(2, 0, 0);
        none.write(43, 1);
        none.write(47, 1);
        DUE.is("both are on", none.control(4), error(2, 29));
        none.write(43, 0);
        DUE.is("one is on", none.control(20), error(2, 30));
        none.write(47, 0);
        DUE.is("none is on", none.control(20), 4);
    }

    private static void runWithoutOutputs() {
        DUE.sentence("RUN: error 27 if there are outputs and");
        for (int inputs = 0; inputs <= 2; inputs++) {
            DUE.is("no outputs, " + inputs + " inputs", Line.inState(4, 0, inputs).control(8), 8);
            DUE.is("one output, " + inputs + " inputs", Line.inState(4, 1, inputs).control(8), NO_FRESH_OUTPUTS);
            DUE.is("two outputs, " + inputs + " inputs", Line.inState(4, 2, inputs).control(8), NO_FRESH_OUTPUTS);
        }
        Line closed = Line.inState(4, 0, 0);
        closed.write(40, 0, 0, 0, 0, 0, 0, 0, 0);
        DUE.is("no outputs, and channels as they may be", closed.control(8), 8);
    }

    private static void runNeedsWritten() {
        DUE.sentence("error 27 if there are outputs and channel 2 is not written");
        for (int b = 40; b <= 43; b++) {
            Line line = in(4);
            line.write(b, line.peek(b));
            DUE.is("a write to " + b + " clears it", line.control(8), NO_FRESH_OUTPUTS);
            line.write(80, 1);
            DUE.is("written anew", line.control(24), 8);
        }
        for (int b : new int[] {39, 44}) {
            Line line = in(4);
            line.write(b, line.peek(b));
            DUE.is("a write to " + b + " does not", line.control(8), 8);
        }
    }

    private static void runNeedsRenewalSinceSafe() {
        DUE.sentence("or its DONE did not become what FRESH is since SAFE was entered from READY");
        for (int from = 1; from <= 2; from++) {
            Line line = Line.inState(from, 2, 0);
            line.write(80, 1, 2);
            if (from == 1) {
                line.control(2);
            }
            line.write(80, 1, 2);
            line.x.request(4);
            line.write(80, 1, 2);
            line.x.tick();
            DUE.is("SAFE", line.state(), 4);
            DUE.is("written, but before SAFE", line.control(8), NO_FRESH_OUTPUTS);
            line.write(80, 3);
            DUE.is("FRESH alone", line.control(24), NO_FRESH_OUTPUTS);
            line.write(81, 4);
            DUE.is("since SAFE", line.control(24), 8);
        }
        for (int c : new int[] {0, 1, 3}) {
            Line line = Line.inState(2, 1, 0);
            line.write(80, 1);
            line.control(4);
            line.write(32 + 4 * c, 100, 1, 2, 1);
            line.write(100, 5);
            DUE.is("OUTPUTS of channel " + c, line.control(8), NO_FRESH_OUTPUTS);
        }
        for (int lower = 1; lower <= 2; lower++) {
            Line line = in(8);
            DUE.is("a lower state", line.control(lower), lower);
            for (int next = 2 * lower; next <= 4; next *= 2) {
                line.control(next);
            }
            DUE.is("SAFE", line.state(), 4);
            DUE.is("entered from READY again", line.control(8), NO_FRESH_OUTPUTS);
        }
    }

    private static void runNeedsRenewalSinceTheWatch() {
        DUE.sentence("since SAFE was entered .. by the watch");
        Line line = in(8);
        line.write(4, 1);
        line.x.tick();
        line.x.tick();
        DUE.is("the watch", line.state(), NO_FRESH_OUTPUTS);
        DUE.is("RUN at once", line.control(24), NO_FRESH_OUTPUTS);
        DUE.is("SAFE by a request", line.control(20), 4);
        DUE.is("RUN from there", line.control(8), NO_FRESH_OUTPUTS);
        line.write(80, 9);
        DUE.is("without bit 4", line.control(8), NO_FRESH_OUTPUTS);
        DUE.is("with bit 4", line.control(24), 8);
        DUE.is("its output", line.x.actuator(0, 0), 9);
    }

    private static void safeThatIsNotEnteredFromReady() {
        DUE.sentence("since SAFE was entered from READY or by the watch");
        Line line = in(4);
        DUE.is("SAFE in SAFE", line.control(4), 4);
        DUE.is("RUN", line.control(8), 8);
        DUE.is("SAFE from RUN", line.control(4), 4);
        DUE.is("RUN without a new output", line.control(8), 8);
        line.control(4);
        line.control(1 + 2);
        DUE.is("SAFE with an error", line.state(), error(4, 18));
        DUE.is("SAFE without it", line.control(20), 4);
        DUE.is("RUN without a new output", line.control(8), 8);
    }

    private static void errorsLeaveTheState() {
        DUE.sentence("Without an error it is that now.");
        Line line = Line.withOne(1, 1);
        DUE.is("error 22", line.control(2), error(1, 22));
        line.x.setup();
        DUE.is("READY", line.control(18), 2);
        line.write(43, 0);
        DUE.is("error 29", line.control(4), error(2, 29));
        DUE.is("RUN is two steps up", line.control(24), error(2, 17));
        line.write(43, 1);
        DUE.is("SAFE", line.control(20), 4);
        DUE.is("error 27", line.control(8), NO_FRESH_OUTPUTS);
        DUE.is("a lower one", line.control(18), 2);
        DUE.is("INIT", line.control(1), 1);
        DUE.is("SAFE is two steps up", line.control(4), error(1, 17));
        DUE.is("RUN is three steps up", line.control(24), error(1, 17));
    }
}
