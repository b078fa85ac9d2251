/** Steps 2 to 5 of "A STATION'S TICK", sentence by sentence: messages, sensors, actuators, and the watch. */
public final class BoundsOfTickTest {
    private static final Due DUE = new Due();
    private static final int WATCHED = 20 + 256 * 27;

    public static void main(String[] args) {
        unlessInit();
        boxesAsTheyMustBe();
        fullOfBoth();
        messageBytes();
        objectZero();
        objectsOneAndTwo();
        objectThree();
        kinds();
        indexes();
        sensorsByState();
        sensorsByChannel();
        sensorsWithoutInputs();
        actuatorsByState();
        actuatorsByChannel();
        actuatorsIfWritten();
        limits();
        noLimit();
        ageAboveAByte();
        ageInOtherStates();
        ageWhenRunIsEntered();
        ageWhenRenewed();
        noOutputsNoWatch();
        whatTheWatchDoes();
        DUE.end();
    }

    private static boolean isOpen(int[] channel) {
        int end = channel[0] + channel[1];
        return channel[3] == 1 && channel[0] >= 64 && channel[1] >= 1 && channel[1] <= 8 && end <= 128;
    }

    private static void unlessInit() {
        DUE.sentence("Unless it is INIT, if channels 0 and 1 are open");
        for (int state = 1; state <= 8; state *= 2) {
            for (int broken = 0; broken <= 1; broken++) {
                Line line = Line.inState(state, 0, 0);
                if (broken == 1) {
                    line.control(3);
                }
                String what = "state " + line.state();
                DUE.is(what + ": ask", line.x.ask(0, 2, 0, 0), 1);
                DUE.is(what + ": before the tick", line.x.answer(0), 0);
                line.x.tick();
                DUE.is(what + ": FULL of 0", line.peek(48), state == 1 ? 1 : 0);
                DUE.is(what + ": FULL of 1", line.peek(49), state == 1 ? 0 : 1);
                DUE.is(what + ": answer", line.x.answer(0), state == 1 ? 0 : 1);
            }
        }
        Line up = Line.inState(1, 0, 0);
        up.x.ask(0, 2, 0, 0);
        up.control(2);
        DUE.is("READY by the same tick", up.x.answer(0), 1);
        Line down = Line.inState(2, 0, 0);
        down.x.ask(0, 2, 0, 0);
        down.control(1);
        DUE.is("INIT by the same tick", down.x.answer(0), 0);
        DUE.is("its message waits", down.peek(48), 1);
    }

    private static void boxesAsTheyMustBe() {
        DUE.sentence("if channels 0 and 1 are open with the modes 3 and 1 and LENGTH 6");
        for (int start : new int[] {0, 63, 64, 90, 122, 123}) {
            for (int length = 5; length <= 7; length++) {
                for (int mode = 0; mode <= 4; mode++) {
                    for (int on = 0; on <= 2; on++) {
                        int[] channel = {start, length, mode, on};
                        boolean well = isOpen(channel) && mode == 1 && length == 6;
                        Line line = Line.inState(2, 0, 0);
                        line.write(32, 110, 6, 3, 1);
                        line.write(36, channel);
                        line.write(110, 2, 0, 0, 0, 0, 0);
                        line.x.tick();
                        String what = "channel 1: " + start + ", " + length + ", " + mode + ", " + on;
                        DUE.is(what + ": FULL of 0", line.peek(48), well ? 0 : 1);
                        DUE.is(what + ": FULL of 1", line.peek(49), well ? 1 : 0);
                    }
                }
            }
        }
        for (int length = 1; length <= 8; length++) {
            for (int start : new int[] {64, 90, 128 - length}) {
                Line line = Line.inState(2, 0, 0);
                line.write(32, start, length, 3, 1);
                line.write(start, new int[length]);
                DUE.is("a message of " + length + " bytes", line.peek(48), 1);
                line.x.tick();
                DUE.is("a message of " + length + " bytes: FULL of 0", line.peek(48), length == 6 ? 0 : 1);
                DUE.is("a message of " + length + " bytes: FULL of 1", line.peek(49), length == 6 ? 1 : 0);
            }
        }
        Line overlapping = Line.inState(2, 0, 0);
        overlapping.write(36, 66);
        overlapping.x.ask(0, 2, 0, 0);
        overlapping.x.tick();
        DUE.is("areas that overlap", overlapping.peek(49), 1);
    }

    private static void fullOfBoth() {
        DUE.sentence("FULL of 0 is 1 and of 1 is 0: the message in DONE of channel 0 is done, FULL of 0 becomes 0, .. FULL of 1 becomes 1");
        Line line = Line.inState(2, 0, 0);
        line.x.tick();
        DUE.is("no message: FULL of 1", line.peek(49), 0);
        line.x.ask(0, 2, 0, 0);
        line.x.tick();
        DUE.is("done: FULL of 0", line.peek(48), 0);
        DUE.is("done: FULL of 1", line.peek(49), 1);
        line.x.tick();
        DUE.is("no second message: FULL of 1", line.peek(49), 1);
        line.x.ask(0, 1, 1, 5);
        line.x.tick();
        line.x.tick();
        DUE.is("the reply waits: FULL of 0", line.peek(48), 1);
        DUE.is("the first reply", line.x.answer(0), 1);
        DUE.is("its kind", line.got(0), 2);
        DUE.is("no reply yet", line.x.answer(0), 0);
        line.x.tick();
        DUE.is("the second reply", line.x.answer(0), 1);
        DUE.is("its kind", line.got(0), 1);
        line.x.ask(0, 2, 3, 0);
        line.x.tick();
        line.x.answer(0);
        DUE.is("two were done before", line.got(2), 2);
    }

    private static int ask(Line line, int kind, int index, int value) {
        line.x.ask(0, kind, index, value);
        line.x.tick();
        line.x.answer(0);
        return line.got(2) | line.got(3) << 8 | line.got(4) << 16 | line.got(5) << 24;
    }

    private static void isReply(String what, Line line, int kind, int index) {
        DUE.is(what + ": counter", line.got(-1), 1);
        DUE.is(what + ": kind", line.got(0), kind);
        DUE.is(what + ": index", line.got(1), index);
    }

    private static void messageBytes() {
        DUE.sentence("A message has six bytes: kind, index, and a value, low byte first.");
        Line line = Line.inState(2, 0, 0);
        DUE.is("a message by a frame", line.write(64, 1, 2, 0x78, 0x56, 0x34, 0x92), 1);
        line.x.tick();
        line.x.answer(0);
        isReply("the message", line, 1, 2);
        DUE.is("object 2", ask(line, 2, 2, 0), 0x92345678);
        DUE.is("byte 0 of the value", line.got(2), 0x78);
        DUE.is("byte 3 of the value", line.got(5), 0x92);
    }

    private static void objectZero() {
        DUE.sentence("OBJECTS: 0 is 1000 + 16 * outputs + inputs");
        for (int outputs = 0; outputs <= 2; outputs++) {
            for (int inputs = 0; inputs <= 2; inputs++) {
                Line line = Line.inState(2, outputs, inputs);
                DUE.is("object 0", ask(line, 2, 0, 5), 1000 + 16 * outputs + inputs);
                isReply("object 0", line, 2, 0);
                DUE.is("no value for it", ask(line, 1, 0, 5), 3);
                isReply("no value for it", line, 3, 0);
                DUE.is("object 0", ask(line, 2, 0, 5), 1000 + 16 * outputs + inputs);
            }
        }
    }

    private static void objectsOneAndTwo() {
        DUE.sentence("1 and 2 are any values (0 at first) .. Kind 1 on object 1 or 2: it gets the value; reply 1, index, 0.");
        for (int index = 1; index <= 2; index++) {
            Line line = Line.inState(2, 2, 2);
            DUE.is("at first", ask(line, 2, index, 9), 0);
            isReply("at first", line, 2, index);
            for (int value : new int[] {Due.LEAST, -1, 0, 1, 255, 256, 65535, 65536, 1 << 24, Due.GREATEST}) {
                DUE.is("set " + value, ask(line, 1, index, value), 0);
                isReply("set " + value, line, 1, index);
                DUE.is("get " + value, ask(line, 2, index, 9), value);
                isReply("get " + value, line, 2, index);
                DUE.is("the other one", ask(line, 2, 3 - index, 9), 0);
            }
        }
    }

    private static void objectThree() {
        DUE.sentence("3 is how many messages were done before");
        Line line = Line.inState(2, 0, 0);
        for (int before = 0; before < 60; before++) {
            DUE.is("object 3", ask(line, 2, 3, 7), before);
        }
        Line other = Line.inState(2, 0, 0);
        DUE.is("no value for it", ask(other, 1, 3, 7), 3);
        ask(other, 9, 9, 9);
        ask(other, 1, 200, 9);
        DUE.is("those that are not done well count too", ask(other, 2, 3, 7), 3);
        other.control(1);
        other.x.setup();
        other.control(2);
        DUE.is("it goes on after INIT", ask(other, 2, 3, 7), 4);
    }

    private static void kinds() {
        DUE.sentence("Otherwise the reply is 3, index, and the value 1 (kind is not 1 or 2)");
        for (int kind = 0; kind < 256; kind++) {
            for (int index : new int[] {0, 1, 2, 3, 4, 255}) {
                if (kind != 1 && kind != 2) {
                    Line line = Line.inState(2, 0, 0);
                    DUE.is("kind " + kind + " on " + index, ask(line, kind, index, -1), 1);
                    isReply("kind " + kind, line, 3, index);
                    DUE.is("nothing is set", ask(line, 2, 1, 0) | ask(line, 2, 2, 0), 0);
                }
            }
        }
    }

    private static void indexes() {
        DUE.sentence("else 2 (no such object), else 3.");
        for (int index = 0; index < 256; index++) {
            Line line = Line.inState(2, 0, 0);
            boolean there = index <= 3;
            boolean takes = index == 1 || index == 2;
            DUE.is("kind 1 on " + index, ask(line, 1, index, 0x01020304), takes ? 0 : there ? 3 : 2);
            isReply("kind 1 on " + index, line, takes ? 1 : 3, index);
            int value = index == 0 ? 1000 : index == 3 ? 1 : 0x01020304;
            DUE.is("kind 2 on " + index, ask(line, 2, index, 9), there ? value : 2);
            isReply("kind 2 on " + index, line, there ? 2 : 3, index);
        }
    }

    private static void sensorsByState() {
        DUE.sentence("SAFE or RUN, with inputs, channel 3 open with mode 0 and LENGTH their number: its DONE becomes what the sensors say");
        for (int inputs = 1; inputs <= 2; inputs++) {
            for (int state = 1; state <= 8; state *= 2) {
                for (int error = 0; error <= 1; error++) {
                    Line line = Line.inState(state, 0, inputs);
                    if (error == 1) {
                        line.control(3);
                    }
                    line.write(44, 96);
                    line.x.sense(0, 0, 61);
                    line.x.sense(0, 1, 62);
                    line.x.tick();
                    boolean takes = state >= 4;
                    String what = inputs + " inputs, state " + line.state();
                    DUE.is(what, line.read(96, inputs), takes ? 1 : 0);
                    for (int i = 0; i < inputs; i++) {
                        DUE.is(what + ": sensor " + i, line.got(i), takes ? 61 + i : 0);
                    }
                }
            }
        }
        Line line = Line.inState(2, 0, 1);
        line.x.sense(0, 0, 61);
        line.control(4);
        DUE.is("SAFE by the same tick", line.peek(96), 61);
        line.x.sense(0, 0, 62);
        line.control(2);
        DUE.is("READY by the same tick: as it was", line.peek(96), 61);
    }

    private static void sensorsByChannel() {
        DUE.sentence("channel 3 open with mode 0 and LENGTH their number");
        for (int inputs = 1; inputs <= 2; inputs++) {
            for (int start : new int[] {63, 64, 126, 127}) {
                for (int length = 0; length <= 3; length++) {
                    for (int on = 0; on <= 2; on++) {
                        int[] channel = {start, length, 0, on};
                        boolean open = isOpen(channel);
                        Line line = Line.inState(4, 0, inputs);
                        line.write(32, 0, 0, 0, 0, 0, 0, 0, 0);
                        line.write(44, channel);
                        line.x.sense(0, 0, 61);
                        line.x.sense(0, 1, 62);
                        line.x.tick();
                        String what = inputs + " inputs, channel 3: " + start + ", " + length + ", ON " + on;
                        DUE.is(what, line.read(start, 1), open && length != inputs ? 0 : 1);
                        DUE.is(what, line.got(0), open && length == inputs ? 61 : 0);
                    }
                }
            }
        }
        for (int mode = 0; mode <= 4; mode++) {
            Line line = Line.inState(4, 0, 1);
            line.write(46, mode);
            line.x.sense(0, 0, 61);
            line.x.tick();
            DUE.is("MODE " + mode, line.read(96, 1), mode == 0 ? 1 : 0);
            line.write(46, 0);
            DUE.is("MODE " + mode + ", then 0: not written", line.read(96, 1), 0);
        }
    }

    private static void sensorsWithoutInputs() {
        DUE.sentence("SAFE or RUN, with inputs");
        for (int length = 0; length <= 2; length++) {
            Line line = Line.inState(4, 0, 0);
            line.write(44, 96, length, 0, 1);
            line.x.tick();
            DUE.is("no inputs, LENGTH " + length, line.read(96, 1), length == 0 ? 1 : 0);
        }
    }

    private static void actuatorsByState() {
        DUE.sentence("RUN, with outputs .. the actuators become its DONE. Not RUN: all actuators become 0.");
        for (int outputs = 1; outputs <= 2; outputs++) {
            for (int state = 1; state <= 8; state *= 2) {
                for (int error = 0; error <= 1; error++) {
                    Line line = Line.inState(8, outputs, 0);
                    line.write(80, outputs == 1 ? new int[] {71} : new int[] {71, 72});
                    line.x.tick();
                    DUE.is("RUN", line.x.actuator(0, outputs - 1), 70 + outputs);
                    line.x.request(state);
                    DUE.is("before the tick", line.x.actuator(0, outputs - 1), 70 + outputs);
                    line.x.tick();
                    if (error == 1) {
                        line.control(3);
                    }
                    for (int i = 0; i < outputs; i++) {
                        DUE.is("state " + line.state() + ": actuator " + i, line.x.actuator(0, i), state == 8 ? 71 + i : 0);
                    }
                    line.write(80, outputs == 1 ? new int[] {81} : new int[] {81, 82});
                    line.x.tick();
                    for (int i = 0; i < outputs; i++) {
                        DUE.is("state " + line.state() + ": actuator " + i, line.x.actuator(0, i), state == 8 ? 81 + i : 0);
                    }
                }
            }
        }
        Line line = Line.inState(4, 1, 0);
        line.write(80, 71);
        line.x.tick();
        DUE.is("SAFE", line.x.actuator(0, 0), 0);
        line.control(8);
        DUE.is("RUN by the same tick", line.x.actuator(0, 0), 71);
    }

    private static void actuatorsByChannel() {
        DUE.sentence("RUN, with outputs, channel 2 open with mode 2 and LENGTH their number, and written");
        for (int outputs = 1; outputs <= 2; outputs++) {
            for (int start : new int[] {63, 64, 126, 127}) {
                for (int length = 0; length <= 3; length++) {
                    for (int on = 0; on <= 2; on++) {
                        int[] channel = {start, length, 2, on};
                        Line line = Line.inState(8, outputs, 0);
                        line.write(80, outputs == 1 ? new int[] {71} : new int[] {71, 72});
                        line.x.tick();
                        line.write(32, 0, 0, 0, 0, 0, 0, 0, 0);
                        line.write(40, channel);
                        if (isOpen(channel)) {
                            line.write(start, length == 1 ? new int[] {5} : length == 2 ? new int[] {5, 6} : new int[] {5, 6, 7});
                        }
                        line.x.tick();
                        boolean moves = isOpen(channel) && length == outputs;
                        String what = outputs + " outputs, channel 2: " + start + ", " + length + ", ON " + on;
                        for (int i = 0; i < outputs; i++) {
                            DUE.is(what + ": actuator " + i, line.x.actuator(0, i), moves ? 5 + i : 71 + i);
                        }
                    }
                }
            }
        }
        Line line = Line.inState(8, 1, 0);
        line.write(80, 71);
        line.x.tick();
        line.write(42, 3);
        line.write(80, 72);
        line.x.tick();
        DUE.is("MODE 3", line.x.actuator(0, 0), 71);
    }

    private static void actuatorsIfWritten() {
        DUE.sentence("and written: the actuators become its DONE");
        Line line = Line.inState(8, 2, 0);
        line.write(80, 71, 72);
        line.x.tick();
        line.write(43, 1);
        line.x.tick();
        DUE.is("cleared: actuator 0 stays", line.x.actuator(0, 0), 71);
        DUE.is("cleared: actuator 1 stays", line.x.actuator(0, 1), 72);
        line.write(80, 5);
        line.x.tick();
        DUE.is("FRESH alone: actuator 0 stays", line.x.actuator(0, 0), 71);
        line.write(81, 6);
        line.x.tick();
        DUE.is("written: actuator 0", line.x.actuator(0, 0), 5);
        DUE.is("written: actuator 1", line.x.actuator(0, 1), 6);
    }

    /** In RUN since this tick, so that the age is 1. */
    private static Line watched(int limit) {
        Line line = Line.inState(4, 1, 1);
        line.write(80, 71);
        line.write(4, limit);
        DUE.is("RUN with LIMIT " + limit, line.control(8), 8);
        return line;
    }

    private static void limits() {
        DUE.sentence("RUN, with outputs, LIMIT not 0, and the age above LIMIT: it is SAFE, with error 27");
        for (int limit = 1; limit < 256; limit++) {
            Line line = watched(limit);
            for (int age = 2; age <= limit; age++) {
                line.x.tick();
            }
            DUE.is("LIMIT " + limit + ": age " + limit, line.state(), 8);
            DUE.is("LIMIT " + limit + ": its actuator", line.x.actuator(0, 0), 71);
            line.x.tick();
            DUE.is("LIMIT " + limit + ": age " + (limit + 1), line.state(), WATCHED);
            DUE.is("LIMIT " + limit + ": its actuator", line.x.actuator(0, 0), 0);
        }
    }

    private static void noLimit() {
        DUE.sentence("LIMIT not 0");
        Line line = watched(0);
        for (int age = 2; age <= 400; age++) {
            line.x.tick();
        }
        DUE.is("age 400, LIMIT 0", line.state(), 8);
        DUE.is("its actuator", line.x.actuator(0, 0), 71);
    }

    private static void ageAboveAByte() {
        DUE.sentence("here it becomes 1 more .. the age above LIMIT");
        for (int age : new int[] {255, 256, 257, 300}) {
            Line line = watched(0);
            for (int tick = 2; tick <= age; tick++) {
                line.x.tick();
            }
            line.write(4, 255);
            DUE.is("age " + age, line.state(), 8);
            line.x.tick();
            DUE.is("age " + (age + 1) + ", LIMIT 255", line.state(), WATCHED);
        }
        Line line = watched(0);
        for (int tick = 2; tick <= 254; tick++) {
            line.x.tick();
        }
        line.write(4, 255);
        line.x.tick();
        DUE.is("age 255, LIMIT 255", line.state(), 8);
    }

    private static void ageInOtherStates() {
        DUE.sentence("RUN, with outputs, LIMIT not 0");
        for (int state = 1; state <= 4; state *= 2) {
            Line line = Line.inState(state, 1, 1);
            line.write(4, 1);
            for (int tick = 0; tick < 5; tick++) {
                line.x.tick();
            }
            DUE.is("state " + state, line.state(), state);
        }
    }

    private static void ageWhenRunIsEntered() {
        DUE.sentence("the AGE is 0 when RUN is entered");
        Line line = Line.inState(4, 1, 0);
        line.write(4, 2);
        line.write(80, 71);
        for (int tick = 0; tick < 5; tick++) {
            line.x.tick();
        }
        DUE.is("SAFE", line.state(), 4);
        DUE.is("age 1", line.control(8), 8);
        line.x.tick();
        DUE.is("age 2", line.state(), 8);
        line.x.tick();
        DUE.is("age 3", line.state(), WATCHED);
        Line again = watched(2);
        again.x.tick();
        DUE.is("age 2", again.state(), 8);
        DUE.is("SAFE", again.control(4), 4);
        DUE.is("entered again: age 1", again.control(8), 8);
        again.x.tick();
        DUE.is("age 2", again.state(), 8);
        again.x.tick();
        DUE.is("age 3", again.state(), WATCHED);
        Line within = watched(2);
        DUE.is("RUN in RUN is not entered: age 2", within.control(8), 8);
        DUE.is("RUN in RUN is not entered: age 3", within.control(8), WATCHED);
        Line refused = watched(2);
        DUE.is("a request with an error: age 2", refused.control(3), 24 + 256 * 18);
        DUE.is("the error's end: age 3", refused.control(24), WATCHED);
    }

    private static void ageWhenRenewed() {
        DUE.sentence("and whenever DONE of channel 2 becomes what FRESH is by a frame");
        Line line = watched(1);
        for (int round = 0; round < 20; round++) {
            line.write(80, 71);
            line.x.tick();
            DUE.is("age 1 by command 5", line.state(), 8);
        }
        line.x.cycle();
        line.x.tick();
        DUE.is("age 1 by command 12", line.state(), 8);
        line.x.spoil(0);
        line.x.cycle();
        line.x.tick();
        DUE.is("a frame that does not get there: age 2", line.state(), WATCHED);
        Line two = Line.inState(8, 2, 0);
        two.write(4, 2);
        two.write(80, 5);
        two.x.tick();
        DUE.is("FRESH alone: age 2", two.state(), 8);
        two.write(80, 5);
        two.x.tick();
        DUE.is("FRESH alone: age 3", two.state(), WATCHED);
        for (int c : new int[] {0, 1, 3}) {
            Line other = Line.inState(8, 1, 0);
            other.write(4, 2);
            other.write(32 + 4 * c, 100, 1, 2, 1);
            other.write(100, 5);
            other.x.tick();
            DUE.is("age 2", other.state(), 8);
            other.write(100, 5);
            other.x.tick();
            DUE.is("OUTPUTS of channel " + c + ": age 3", other.state(), WATCHED);
        }
        Line box = Line.inState(8, 1, 0);
        box.write(4, 2);
        box.write(42, 3);
        box.write(80, 5);
        box.x.tick();
        box.write(42, 3);
        box.write(80, 5);
        box.x.tick();
        DUE.is("an INBOX of channel 2: age 3", box.state(), WATCHED);
    }

    private static void noOutputsNoWatch() {
        DUE.sentence("RUN, with outputs");
        Line line = Line.inState(8, 0, 2);
        line.write(4, 1);
        for (int tick = 0; tick < 300; tick++) {
            line.x.tick();
        }
        DUE.is("no outputs", line.state(), 8);
    }

    private static void whatTheWatchDoes() {
        DUE.sentence("it is SAFE, with error 27, and all actuators become 0.");
        Line line = Line.inState(8, 2, 1);
        line.write(4, 3);
        line.write(80, 71, 72);
        line.x.tick();
        line.x.tick();
        DUE.is("actuator 1", line.x.actuator(0, 1), 72);
        line.x.sense(0, 0, 9);
        line.x.tick();
        DUE.is("age 3", line.state(), 8);
        line.x.sense(0, 0, 10);
        line.x.tick();
        DUE.is("STATUS and CODE", line.state(), WATCHED);
        DUE.is("actuator 0", line.x.actuator(0, 0), 0);
        DUE.is("actuator 1", line.x.actuator(0, 1), 0);
        DUE.is("its sensors were taken", line.peek(96), 10);
        line.x.sense(0, 0, 11);
        line.x.tick();
        DUE.is("it stays SAFE", line.state(), WATCHED);
        DUE.is("SAFE takes its sensors", line.peek(96), 11);
        Line error = watched(2);
        DUE.is("RUN with another error", error.control(3), 24 + 256 * 18);
        error.x.tick();
        DUE.is("the watch's error takes its place", error.state(), WATCHED);
        Line lower = watched(1);
        DUE.is("a request for SAFE by the same tick", lower.control(4), 4);
    }
}
