/** Promises 9 (step 2 of a station's tick), 19 and 20. */
public final class MessagesTest {
    private static final Due DUE = new Due();

    public static void main(String[] args) {
        values();
        objectZero();
        notDone();
        howManyBefore();
        whenMessagesAreDone();
        asking();
        whomTheMasterAsks();
        DUE.end();
    }

    /** Asks, ticks and reads the answer, and compares that with the one that is due. */
    private static void reply(Line line, int[] message, int kind, int index, int value) {
        String what = "(" + message[0] + ", " + message[1] + ", " + message[2] + ")";
        DUE.is("ask" + what, line.x.ask(0, message[0], message[1], message[2]), 1);
        line.x.tick();
        DUE.is("answer to " + what, line.x.answer(0), 1);
        int[] due = {kind, index, value & 255, value >> 8 & 255, value >> 16 & 255, value >> 24 & 255};
        for (int i = 0; i < 6; i++) {
            DUE.is("byte " + i + " of the reply to " + what, line.got(i), due[i]);
        }
        DUE.is("six bytes", line.got(6), -1);
    }

    private static int[] message(int kind, int index, int value) {
        return new int[] {kind, index, value};
    }

    private static void values() {
        Line line = Line.inState(2, 0, 0);
        reply(line, message(2, 1, 5), 2, 1, 0);
        reply(line, message(2, 2, 5), 2, 2, 0);
        for (int value : new int[] {1, -1, 0x12345678, Integer.MIN_VALUE, Integer.MAX_VALUE, 0}) {
            reply(line, message(1, 1, value), 1, 1, 0);
            reply(line, message(1, 2, ~value), 1, 2, 0);
            reply(line, message(2, 1, 0), 2, 1, value);
            reply(line, message(2, 2, 0), 2, 2, ~value);
        }
        reply(line, message(256 + 1, 512 + 1, 44), 1, 1, 0);
        reply(line, message(-254, 1, 0), 2, 1, 44);
        line.control(1);
        line.x.setup();
        line.control(2);
        reply(line, message(2, 1, 0), 2, 1, 44);
    }

    private static void objectZero() {
        for (int outputs = 0; outputs <= 2; outputs++) {
            for (int inputs = 0; inputs <= 2; inputs++) {
                Line line = Line.inState(2, outputs, inputs);
                reply(line, message(2, 0, 77), 2, 0, 1000 + 16 * outputs + inputs);
                reply(line, message(1, 0, 77), 3, 0, 3);
                reply(line, message(2, 0, 77), 2, 0, 1000 + 16 * outputs + inputs);
            }
        }
    }

    private static void notDone() {
        Line line = Line.inState(2, 0, 0);
        for (int kind : new int[] {0, 3, 4, 128, 255}) {
            reply(line, message(kind, 1, 9), 3, 1, 1);
            reply(line, message(kind, 200, 9), 3, 200, 1);
        }
        for (int index : new int[] {4, 5, 128, 255}) {
            reply(line, message(1, index, 9), 3, index, 2);
            reply(line, message(2, index, 9), 3, index, 2);
        }
        reply(line, message(1, 0, 9), 3, 0, 3);
        reply(line, message(1, 3, 9), 3, 3, 3);
        reply(line, message(2, 1, 0), 2, 1, 0);
        reply(line, message(2, 2, 0), 2, 2, 0);
    }

    private static void howManyBefore() {
        Line line = Line.inState(2, 0, 0);
        reply(line, message(2, 3, 0), 2, 3, 0);
        reply(line, message(2, 3, 0), 2, 3, 1);
        reply(line, message(9, 9, 0), 3, 9, 1);
        reply(line, message(1, 1, 7), 1, 1, 0);
        reply(line, message(2, 3, 0), 2, 3, 4);
        line.control(1);
        line.control(2);
        reply(line, message(2, 3, 0), 2, 3, 5);
    }

    private static void whenMessagesAreDone() {
        Line line = Line.inState(1, 0, 0);
        DUE.is("INIT: a message is taken", line.x.ask(0, 2, 0, 0), 1);
        line.x.tick();
        DUE.is("but not done", line.peek(48), 1);
        DUE.is("no answer", line.x.answer(0), 0);
        line.control(2);
        DUE.is("READY: in the same tick", line.peek(48), 0);
        DUE.is("a second message while the reply waits", line.x.ask(0, 2, 3, 0), 1);
        line.x.tick();
        DUE.is("it waits", line.peek(48), 1);
        DUE.is("the first reply", line.x.answer(0), 1);
        DUE.is("object 0", line.got(1), 0);
        line.x.tick();
        DUE.is("the second reply", line.x.answer(0), 1);
        DUE.is("object 3", line.got(1), 3);
        DUE.is("one before", line.got(2), 1);
        line.control(7);
        reply(line, message(2, 0, 0), 2, 0, 1000);
        Line run = Line.inState(8, 0, 0);
        reply(run, message(2, 0, 0), 2, 0, 1000);
        run.x.ask(0, 2, 0, 0);
        run.write(39, 1);
        run.x.tick();
        DUE.is("channel 1 is cleared, but open", run.x.answer(0), 1);
        run.x.ask(0, 2, 0, 0);
        run.write(37, 5);
        run.x.tick();
        DUE.is("LENGTH of channel 1 is 5", run.peek(48), 1);
        run.write(37, 6);
        run.x.tick();
        DUE.is("LENGTH of channel 1 is 6", run.peek(48), 0);
    }

    private static void asking() {
        Line line = Line.inState(2, 0, 0);
        DUE.is("ask", line.x.ask(0, 300, -1, 0x01020304), 1);
        int[] sent = {44, 255, 4, 3, 2, 1};
        for (int i = 0; i < 6; i++) {
            DUE.is("byte " + i + " of the frame", line.got(i), sent[i]);
        }
        DUE.is("its address", line.got(-2), 1);
        DUE.is("ask while it is full", line.x.ask(0, 2, 0, 0), 0);
        line.x.tick();
        line.x.answer(0);
        DUE.is("the first one was done", line.got(1), 255);
        DUE.is("no answer any more", line.x.answer(0), 0);
        DUE.is("data are 0 then", line.got(0), 0);
        DUE.is("the address", line.got(-2), 1);
        for (int station : new int[] {-1, 1, 6, Integer.MAX_VALUE, Integer.MIN_VALUE}) {
            DUE.is("ask(" + station + ", ..)", line.x.ask(station, 2, 0, 0), -1);
            DUE.is("answer(" + station + ")", line.x.answer(station), -1);
        }
        DUE.is("a refused one sends nothing", line.got(-1), 0);
        line.x.cut(0, true);
        DUE.is("ask over a break", line.x.ask(0, 2, 0, 0), -1);
        DUE.is("nothing is RETURNED", line.got(-1), -1);
        DUE.is("answer over a break", line.x.answer(0), -1);
        line.x.cut(0, false);
        DUE.is("nothing came there", line.peek(48), 0);
    }

    private static void whomTheMasterAsks() {
        StationLine x = new StationLine();
        x.station(0, 0);
        x.station(0, 0);
        DUE.is("a station that was not found", x.ask(1, 2, 0, 0), 0);
        x.scan();
        DUE.is("not set up: plain bytes", x.ask(1, 2, 0, 0), 1);
        DUE.is("not set up: plain bytes", x.answer(1), 1);
        x.setup();
        x.request(2);
        x.tick();
        DUE.is("station 1", x.ask(1, 1, 1, 8), 1);
        x.tick();
        DUE.is("station 0 has no answer", x.answer(0), 0);
        x.cut(1, true);
        DUE.is("behind a break", x.answer(1), 0);
        x.cut(1, false);
        DUE.is("station 1 has one", x.answer(1), 1);
        x.station(0, 0);
        DUE.is("a station that was not found is on the line", x.ask(2, 2, 0, 0), 0);
        DUE.is("a station that was not found is on the line", x.answer(2), 0);
    }
}
