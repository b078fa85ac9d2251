/** Promise 5, access to the bytes of channels. */
public final class ChannelsTest {
    private static final Due DUE = new Due();
    private static final int INPUTS = 0;
    private static final int OUTBOX = 1;
    private static final int OUTPUTS = 2;
    private static final int INBOX = 3;

    public static void main(String[] args) {
        whatIsOpen();
        outputs();
        outputsByTheirLastByte();
        inputs();
        inbox();
        outbox();
        otherModes();
        clearing();
        theLeastNumberHasTheByte();
        firstAndLastByteOfAnother();
        rowsAreNotTheMemory();
        DUE.end();
    }

    private static Line with(int channel, int start, int length, int mode) {
        Line line = Line.withOne(1, 2);
        line.write(32 + 4 * channel, start, length, mode, 1);
        return line;
    }

    /** Plain bytes can be read, those of OUTPUTS can not: that shows whether the channel is open. */
    private static boolean isOpen(int start, int length, int on, int at) {
        Line line = Line.withOne(0, 0);
        line.write(40, start, length, OUTPUTS, on);
        return line.peek(at) < 0;
    }

    private static void whatIsOpen() {
        DUE.is("64, 1", isOpen(64, 1, 1, 64), true);
        DUE.is("63, 8", isOpen(63, 8, 1, 64), false);
        DUE.is("64, 8", isOpen(64, 8, 1, 71), true);
        DUE.is("64, 8: not the byte behind", isOpen(64, 8, 1, 72), false);
        DUE.is("65, 8: not the byte before", isOpen(65, 8, 1, 64), false);
        DUE.is("64, 9", isOpen(64, 9, 1, 64), false);
        DUE.is("64, 0", isOpen(64, 0, 1, 64), false);
        DUE.is("120, 8", isOpen(120, 8, 1, 127), true);
        DUE.is("121, 8", isOpen(121, 8, 1, 125), false);
        DUE.is("127, 1", isOpen(127, 1, 1, 127), true);
        DUE.is("128, 1", isOpen(128, 1, 1, 127), false);
        DUE.is("off", isOpen(64, 1, 0, 64), false);
        DUE.is("ON is 2", isOpen(64, 1, 2, 64), false);
        DUE.is("ON is 255", isOpen(64, 1, 255, 64), false);
    }

    private static void outputs() {
        Line line = with(2, 80, 3, OUTPUTS);
        DUE.is("read", line.read(80, 3), 0);
        DUE.is("read one", line.read(82, 1), 0);
        DUE.is("read with bytes before it", line.read(79, 2), 0);
        DUE.is("read before it", line.read(79, 1), 1);
        DUE.is("write the first", line.write(80, 1), 1);
        DUE.is("write the last", line.write(82, 1), 1);
        DUE.is("write more than it", line.write(78, 1, 2, 3, 4, 5, 6), 1);
        DUE.is("the plain byte before", line.peek(79), 2);
        DUE.is("the plain byte behind", line.peek(83), 6);
    }

    /** What the actuators show is DONE of channel 2; FRESH becomes that by the last byte alone. */
    private static void outputsByTheirLastByte() {
        Line line = Line.inState(8, 2, 0);
        line.write(80, 5);
        line.x.tick();
        DUE.is("the first byte alone", line.x.actuator(0, 0), 0);
        line.write(81, 6);
        line.x.tick();
        DUE.is("the last byte: both", line.x.actuator(0, 0), 5);
        DUE.is("the last byte: both", line.x.actuator(0, 1), 6);
        line.write(81, 7, 7);
        line.x.tick();
        DUE.is("a row that goes on behind it", line.x.actuator(0, 1), 7);
    }

    private static void inputs() {
        Line line = Line.withOne(0, 2);
        line.x.setup();
        line.control(2);
        line.x.sense(0, 0, 10);
        line.x.sense(0, 1, 20);
        DUE.is("not written yet", line.read(96, 2), 0);
        DUE.is("not written yet, one byte", line.read(97, 1), 0);
        line.control(4);
        DUE.is("write", line.write(96, 1, 1), 0);
        DUE.is("write with bytes before", line.write(95, 1, 1), 0);
        DUE.is("nothing of it was done", line.peek(95), 0);
        DUE.is("the second byte alone", line.peek(97), 0);
        DUE.is("the first byte", line.peek(96), 10);
        DUE.is("the second byte behind the first", line.peek(97), 20);
        line.x.sense(0, 0, 11);
        line.x.sense(0, 1, 21);
        line.x.tick();
        DUE.is("the second byte stays what it was", line.peek(97), 20);
        DUE.is("both", line.read(95, 4), 1);
        DUE.is("plain", line.got(0), 0);
        DUE.is("the first byte", line.got(1), 11);
        DUE.is("the second byte", line.got(2), 21);
        DUE.is("plain", line.got(3), 0);
    }

    private static void inbox() {
        Line line = with(0, 64, 3, INBOX);
        DUE.is("read", line.read(64, 3), 0);
        DUE.is("write a part", line.write(64, 1, 2), 0);
        DUE.is("write a part", line.write(65, 1, 2), 0);
        DUE.is("write a part and more", line.write(63, 1, 2, 3), 0);
        DUE.is("not full", line.peek(48), 0);
        DUE.is("write more than it", line.write(63, 9, 1, 2, 3, 8), 1);
        DUE.is("full", line.peek(48), 1);
        DUE.is("plain before", line.peek(63), 9);
        DUE.is("plain behind", line.peek(67), 8);
        DUE.is("write while it is full", line.write(64, 1, 2, 3), 0);
        DUE.is("read while it is full", line.read(64, 3), 0);
        DUE.is("channel 1 is not full", line.peek(49), 0);
    }

    private static void outbox() {
        Line line = Line.inState(2, 0, 0);
        DUE.is("empty", line.read(72, 6), 0);
        line.x.ask(0, 2, 0, 0);
        line.x.tick();
        DUE.is("full", line.peek(49), 1);
        DUE.is("write", line.write(72, 1, 2, 3, 4, 5, 6), 0);
        DUE.is("read a part", line.read(72, 5), 0);
        DUE.is("read a part", line.read(73, 5), 0);
        DUE.is("still full", line.peek(49), 1);
        DUE.is("read more than it", line.read(71, 8), 1);
        DUE.is("plain", line.got(0), 0);
        DUE.is("kind", line.got(1), 2);
        DUE.is("value", line.got(3), 1000 % 256);
        DUE.is("not full any more", line.peek(49), 0);
        DUE.is("read again", line.read(72, 6), 0);
        DUE.is("write while it is empty", line.write(72, 1, 2, 3, 4, 5, 6), 0);
    }

    private static void otherModes() {
        for (int mode : new int[] {4, 5, 128, 255}) {
            Line line = with(1, 100, 2, mode);
            DUE.is("read, mode " + mode, line.read(100, 2), 0);
            DUE.is("write, mode " + mode, line.write(100, 1, 2), 0);
            DUE.is("beside it, mode " + mode, line.read(98, 2), 1);
            DUE.is("with it, mode " + mode, line.write(99, 2, 2), 0);
        }
    }

    private static void clearing() {
        for (int i = 0; i < 4; i++) {
            Line line = with(0, 64, 2, INBOX);
            line.write(36, 70, 1, INBOX, 1);
            line.write(64, 1, 2);
            line.write(70, 1);
            DUE.is("full", line.peek(48), 1);
            int same = line.peek(32 + i);
            line.write(32 + i, same);
            DUE.is("a write to " + (32 + i) + " makes it empty", line.peek(48), 0);
            DUE.is("the other one stays full", line.peek(49), 1);
        }
        Line run = Line.inState(8, 2, 2);
        run.x.sense(0, 0, 3);
        run.x.tick();
        DUE.is("inputs are written", run.read(96, 2), 1);
        run.write(44, 96);
        DUE.is("not written any more", run.read(96, 2), 0);
        run.x.tick();
        DUE.is("the second byte: FRESH is 0", run.peek(97), 0);
        run.write(80, 8, 9);
        run.write(43, 1);
        run.write(81, 4);
        run.x.tick();
        DUE.is("FRESH of the outputs was cleared", run.x.actuator(0, 0), 0);
        DUE.is("and written anew", run.x.actuator(0, 1), 4);
        Line whole = Line.inState(2, 0, 0);
        whole.x.ask(0, 2, 0, 0);
        whole.x.tick();
        whole.write(39, 1);
        DUE.is("a reply is lost", whole.peek(49), 0);
    }

    private static void theLeastNumberHasTheByte() {
        Line line = Line.withOne(0, 0);
        line.write(44, 100, 4, OUTPUTS, 1);
        line.write(36, 102, 4, INBOX, 1);
        DUE.is("channel 3's own bytes", line.write(100, 1, 2), 1);
        DUE.is("with a part of channel 1", line.write(100, 1, 2, 3), 0);
        DUE.is("channel 1 whole, with channel 3", line.write(100, 1, 2, 3, 4, 5, 6), 1);
        DUE.is("channel 1 is full", line.peek(49), 1);
        DUE.is("channel 3 is not written by the last byte", line.write(103, 1), 0);
        line.write(39, 0);
        DUE.is("channel 1 is closed", line.write(103, 1), 1);
        DUE.is("plain", line.peek(104), 0);

        Line boxes = Line.withOne(0, 0);
        boxes.write(36, 64, 4, INBOX, 1);
        boxes.write(32, 66, 4, OUTPUTS, 1);
        DUE.is("the row must have the whole area", boxes.write(64, 1, 2), 0);
        DUE.is("its own bytes and the others", boxes.write(64, 1, 2, 3, 4), 1);
        DUE.is("full", boxes.peek(49), 1);
        DUE.is("not channel 1's", boxes.write(66, 3, 4), 1);
    }

    private static void firstAndLastByteOfAnother() {
        Line line = Line.inState(8, 2, 2);
        line.x.sense(0, 0, 10);
        line.x.sense(0, 1, 20);
        line.x.tick();
        // Channel 0 takes the first byte of channel 3, and the last one of channel 2.
        line.write(32, 96, 1, OUTPUTS, 1);
        DUE.is("the first byte is another's", line.read(96, 2), 0);
        DUE.is("the second one is not renewed", line.peek(97), 0);
        line.write(32, 81, 1, OUTPUTS, 1);
        DUE.is("the first byte is its own again", line.read(96, 2), 1);
        DUE.is("renewed", line.got(1), 20);
        line.write(80, 7, 8);
        line.x.tick();
        DUE.is("the last byte is another's", line.x.actuator(0, 0), 0);
        line.write(35, 0);
        line.write(81, 9);
        line.x.tick();
        DUE.is("its own again", line.x.actuator(0, 0), 7);
        DUE.is("its own again", line.x.actuator(0, 1), 9);
    }

    private static void rowsAreNotTheMemory() {
        Line line = Line.withOne(0, 0);
        line.write(80, 1, 2);
        line.write(40, 80, 2, OUTPUTS, 1);
        line.write(80, 3, 4);
        line.write(43, 0);
        DUE.is("the memory's byte", line.peek(80), 1);
        DUE.is("the memory's byte", line.peek(81), 2);
        Line never = with(1, 100, 1, INPUTS);
        DUE.is("INPUTS of channel 1 are never written", never.read(100, 1), 0);
        Line empty = with(3, 100, 1, OUTBOX);
        DUE.is("an OUTBOX that nobody fills", empty.read(100, 1), 0);
    }
}
