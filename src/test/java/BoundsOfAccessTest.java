/** "Terms", sentence by sentence: the bytes of a station, its channels, and which access to them is allowed. */
public final class BoundsOfAccessTest {
    private static final Due DUE = new Due();
    private static final int INPUTS = 0;
    private static final int OUTPUTS = 2;
    private static final int INBOX = 3;

    public static void main(String[] args) {
        memoryAtFirst();
        plainBytes();
        lostWrites();
        lostWritesOfFull();
        openChannels();
        areas();
        placesOfChannels();
        leastNumber();
        modes();
        rowsAreNotTheMemory();
        clearing();
        clearingByRows();
        clearedRows();
        clearingIsNoRenewal();
        belowTheEnd();
        inputsIfWritten();
        outputsByWriting();
        inboxIfWholeAndEmpty();
        outboxIfWholeAndFull();
        eachChannelOfTheRow();
        nothingOfItIsDone();
        firstByteOfInputs();
        lastByteOfOutputs();
        firstByteThatIsAnothers();
        lastByteThatIsAnothers();
        wholeAreaThatIsPartlyAnothers();
        DUE.end();
    }

    private static boolean within(int b, int first, int length) {
        return b >= first && b < first + length;
    }

    private static boolean touches(int first, int length, int start, int size) {
        return first < start + size && first + length > start;
    }

    private static boolean covers(int first, int length, int start, int size) {
        return first <= start && first + length >= start + size;
    }

    private static void channel(Line line, int c, int start, int length, int mode) {
        line.write(32 + 4 * c, start, length, mode, 1);
    }

    private static void memoryAtFirst() {
        DUE.sentence("Its MEMORY has 128 bytes, at first 0 (but STATUS 1)");
        for (int b = 0; b < 128; b++) {
            Line line = new Line();
            line.x.station(2, 2);
            DUE.is("byte " + b + " is there", line.send(1, 0, b, 1), 1);
            DUE.is("byte " + b, line.got(0), b == 2 ? 1 : 0);
        }
        Line line = new Line();
        line.x.station(0, 0);
        DUE.is("byte 128 is not there", line.send(1, 0, 127, 2), 0);
    }

    private static void plainBytes() {
        DUE.sentence("All others are plain. What frames write to 2, 3 and 48 to 51 is lost");
        for (int b = 0; b < 128; b++) {
            for (int value : new int[] {0xa5, 0xff, 1}) {
                Line line = new Line();
                line.x.station(2, 2);
                DUE.is("a write to " + b + " counts", line.send(2, 0, b, 1, value), 1);
                int first = Math.max(0, Math.min(120, b - 4));
                line.send(1, 0, first, 8);
                for (int i = 0; i < 8; i++) {
                    boolean kept = first + i == b && b != 2 && b != 3 && !within(b, 48, 4);
                    int due = kept ? value : first + i == 2 ? 1 : 0;
                    DUE.is(value + " written to " + b + ": byte " + (first + i), line.got(i), due);
                }
            }
        }
    }

    private static void lostWrites() {
        DUE.sentence("What frames write to 2, 3 and 48 to 51 is lost (but it counts as written).");
        for (int lost : new int[] {2, 3, 48, 49, 50, 51}) {
            for (int value : new int[] {0, 1, 8, 255}) {
                Line line = Line.withOne(0, 0);
                int due = lost == 2 ? 1 : 0;
                DUE.is("command 2 to " + lost, line.send(2, 0, lost, 1, value), 1);
                DUE.is(value + " to " + lost, line.peek(lost), due);
                DUE.is("command 5 to " + lost, line.send(5, 1, lost, 1, value), 1);
                DUE.is(value + " to " + lost, line.peek(lost), due);
                DUE.is("command 8 to " + lost, line.send(8, 0, lost, 1, value), 1);
                DUE.is(value + " to " + lost, line.peek(lost), due);
                line.write(8, 0, 0, 8, lost, 0, 2);
                DUE.is("command 11 to " + lost, line.send(11, 0, 0, 1, value), 1);
                DUE.is(value + " to " + lost, line.peek(lost), due);
                DUE.is("command 12 to " + lost, line.send(12, 0, 0, 1, value), 2);
                DUE.is(value + " to " + lost, line.peek(lost), due);
                line.x.tick();
                DUE.is("the state", line.state(), 1);
            }
        }
        Line line = Line.withOne(0, 0);
        line.control(7);
        line.write(2, 0, 0);
        DUE.is("STATUS and CODE of an error", line.state(), 17 + 256 * 18);
        DUE.is("a row from 1 to 4", line.write(1, 40, 41, 42, 43), 1);
        DUE.is("byte 1", line.peek(1), 40);
        DUE.is("byte 2", line.peek(2), 17);
        DUE.is("byte 3", line.peek(3), 18);
        DUE.is("byte 4", line.peek(4), 43);
        DUE.is("a row from 46 to 52", line.write(46, 40, 41, 42, 43, 44, 45, 46), 1);
        int[] due = {40, 41, 0, 0, 0, 0, 46};
        for (int i = 0; i < due.length; i++) {
            DUE.is("byte " + (46 + i), line.peek(46 + i), due[i]);
        }
    }

    private static void lostWritesOfFull() {
        DUE.sentence("What frames write to .. 48 to 51 is lost");
        for (int c = 0; c < 4; c++) {
            Line line = Line.withOne(0, 0);
            channel(line, c, 100, 1, INBOX);
            line.write(48 + c, 1);
            DUE.is("FULL of " + c + " stays 0: its INBOX takes a write", line.write(100, 7), 1);
            line.write(48 + c, 0);
            DUE.is("FULL of " + c + " stays 1", line.peek(48 + c), 1);
            DUE.is("FULL of " + c + " stays 1: its INBOX takes none", line.write(100, 7), 0);
        }
    }

    private static void openChannels() {
        DUE.sentence("OPEN if ON is 1, START is 64 or more, LENGTH is 1 to 8, and both together are at most 128");
        int[] starts = {0, 63, 64, 65, 119, 120, 121, 126, 127, 128, 192, 255};
        int[] lengths = {0, 1, 2, 7, 8, 9, 129, 255};
        for (int c = 0; c < 4; c++) {
            for (int start : starts) {
                for (int length : lengths) {
                    for (int on : new int[] {0, 1, 2, 129, 255}) {
                        boolean open = on == 1 && start >= 64 && length >= 1 && length <= 8 && start + length <= 128;
                        Line line = Line.withOne(0, 0);
                        line.write(32 + 4 * c, start, length, OUTPUTS, on);
                        String what = "channel " + c + ": " + start + ", " + length + ", ON " + on + ", byte ";
                        for (int b : new int[] {start - 1, start, start + length - 1, start + length, 127}) {
                            if (b >= 0 && b < 128) {
                                boolean has = open && within(b, start, length);
                                DUE.is(what + b, line.read(b, 1), has ? 0 : 1);
                            }
                        }
                    }
                }
            }
        }
    }

    private static void areas() {
        DUE.sentence("its AREA is then the LENGTH bytes from START on");
        for (int c = 0; c < 4; c++) {
            for (int length = 1; length <= 8; length++) {
                for (int start : new int[] {64, 90, 128 - length}) {
                    Line line = Line.withOne(0, 0);
                    channel(line, c, start, length, OUTPUTS);
                    for (int b = start - 2; b < start + length + 2 && b < 128; b++) {
                        String what = "channel " + c + ": " + start + ", " + length + ", byte " + b;
                        DUE.is(what, line.read(b, 1), within(b, start, length) ? 0 : 1);
                    }
                }
            }
        }
    }

    private static void placesOfChannels() {
        DUE.sentence("from 32 + 4 c on CHANNEL c (0 to 3): START, LENGTH, MODE, ON; 48 + c: FULL of channel c");
        for (int at = 5; at <= 56; at++) {
            Line line = Line.withOne(0, 0);
            line.write(at, 100, 2, OUTPUTS, 1);
            boolean isChannel = at == 32 || at == 36 || at == 40 || at == 44;
            DUE.is("four bytes from " + at + " on", line.read(100, 1), isChannel ? 0 : 1);
            line.write(40, 110, 2, OUTPUTS, 1);
            DUE.is("channel 2 beside them", line.read(111, 1), 0);
        }
        Line map = Line.withOne(0, 0);
        map.write(40, 64, 2, OUTPUTS, 1);
        map.write(26, 0, 0, 64, 8, OUTPUTS, 1);
        DUE.is("a map is no channel", map.read(64, 1), 0);
        for (int c = 0; c < 4; c++) {
            Line line = Line.withOne(0, 0);
            line.write(32 + 4 * c, 100, 1, INBOX, 1);
            line.write(100, 1);
            for (int other = 0; other < 4; other++) {
                DUE.is("channel " + c + " is full: byte " + (48 + other), line.peek(48 + other), other == c ? 1 : 0);
            }
        }
    }

    private static void leastNumber() {
        DUE.sentence("A byte is the channel's with the least number that is open and has it in its area.");
        for (int least = 0; least < 4; least++) {
            for (int other = least + 1; other < 4; other++) {
                String what = "channels " + least + " and " + other + ": ";
                Line line = Line.withOne(0, 0);
                channel(line, other, 100, 4, 9);
                channel(line, least, 98, 4, OUTPUTS);
                for (int b = 97; b <= 104; b++) {
                    boolean own = within(b, 98, 4);
                    boolean others = within(b, 102, 2);
                    DUE.is(what + "a write to " + b, line.write(b, 1), others ? 0 : 1);
                    DUE.is(what + "a read of " + b, line.read(b, 1), own || others ? 0 : 1);
                }
                line.write(35 + 4 * least, 0);
                DUE.is(what + "the least one is not open", line.write(100, 1), 0);
                DUE.is(what + "the least one is not open", line.read(99, 1), 1);
                line.write(35 + 4 * least, 1);
                DUE.is(what + "it is open again", line.write(100, 1), 1);
                line.write(34 + 4 * least, 9);
                line.write(34 + 4 * other, OUTPUTS);
                DUE.is(what + "the least one allows nothing", line.write(100, 1), 0);
                DUE.is(what + "the other one's own byte", line.write(102, 1), 1);
            }
        }
    }

    private static void modes() {
        DUE.sentence("MODE: 0 INPUTS, 1 OUTBOX, 2 OUTPUTS, 3 INBOX (with others no access is allowed to its bytes)");
        for (int c = 0; c < 4; c++) {
            for (int mode : new int[] {0, 1, 2, 3, 4, 5, 6, 7, 128, 130, 255}) {
                Line line = Line.withOne(0, 0);
                channel(line, c, 100, 2, mode);
                String what = "channel " + c + ", MODE " + mode + ": ";
                boolean takes = mode == OUTPUTS || mode == INBOX;
                DUE.is(what + "read", line.read(100, 2), 0);
                DUE.is(what + "read with a byte before", line.read(99, 2), 0);
                DUE.is(what + "read with a byte behind", line.read(101, 2), 0);
                DUE.is(what + "a byte before", line.read(99, 1), 1);
                DUE.is(what + "a byte behind", line.read(102, 1), 1);
                DUE.is(what + "write", line.write(99, 1, 2, 3, 4), takes ? 1 : 0);
                DUE.is(what + "the byte before", line.peek(99), takes ? 1 : 0);
                DUE.is(what + "the byte behind", line.peek(102), takes ? 4 : 0);
                DUE.is(what + "FULL", line.peek(48 + c), mode == INBOX ? 1 : 0);
            }
        }
    }

    private static void rowsAreNotTheMemory() {
        DUE.sentence("Bytes of a channel are not those of the memory");
        for (int c = 0; c < 4; c++) {
            for (int mode : new int[] {OUTPUTS, INBOX}) {
                Line line = Line.withOne(0, 0);
                line.write(100, 51, 52, 53);
                channel(line, c, 100, 3, mode);
                DUE.is("a write", line.write(100, 1, 2, 3), 1);
                line.write(35 + 4 * c, 0);
                for (int i = 0; i < 3; i++) {
                    DUE.is("channel " + c + ", MODE " + mode + ": byte " + i, line.peek(100 + i), 51 + i);
                }
            }
        }
    }

    /** Four INBOXes of one byte each, all full: FULL shows which one was cleared. */
    private static Line fourFull() {
        Line line = Line.withOne(0, 0);
        for (int c = 0; c < 4; c++) {
            channel(line, c, 100 + c, 1, INBOX);
        }
        line.write(100, 1, 2, 3, 4);
        return line;
    }

    private static void clearing() {
        DUE.sentence("A frame's write to any byte from 32 to 47 clears its channel: rows all 0, not written, FULL 0.");
        for (int b = 30; b <= 53; b++) {
            Line line = fourFull();
            line.write(b, line.peek(b));
            for (int c = 0; c < 4; c++) {
                boolean cleared = within(b, 32 + 4 * c, 4);
                DUE.is("a write to " + b + ": FULL of " + c, line.peek(48 + c), cleared ? 0 : 1);
                DUE.is("channel " + c + " takes a write", line.write(100 + c, 1), cleared ? 1 : 0);
            }
            line.read(b, 1);
            DUE.is("a read of " + b + " clears nothing", line.write(100, 1), 0);
        }
    }

    private static void clearingByRows() {
        DUE.sentence("A frame's write to any byte from 32 to 47 clears its channel");
        for (int first = 28; first <= 48; first++) {
            for (int length = 1; length <= 8; length++) {
                Line line = fourFull();
                line.read(first, length);
                int[] same = new int[length];
                for (int i = 0; i < length; i++) {
                    same[i] = line.got(i);
                }
                line.write(first, same);
                for (int c = 0; c < 4; c++) {
                    boolean cleared = touches(first, length, 32 + 4 * c, 4);
                    DUE.is(length + " bytes to " + first + ": FULL of " + c, line.peek(48 + c), cleared ? 0 : 1);
                }
            }
        }
    }

    private static void clearedRows() {
        DUE.sentence("clears its channel: rows all 0, not written, FULL 0.");
        for (int i = 0; i < 4; i++) {
            Line line = Line.inState(8, 2, 2);
            line.x.sense(0, 0, 71);
            line.x.sense(0, 1, 72);
            line.x.tick();
            DUE.is("inputs", line.read(96, 2), 1);
            line.write(44 + i, line.peek(44 + i));
            DUE.is("byte " + (44 + i) + ": not written", line.read(96, 2), 0);
            line.x.tick();
            DUE.is("byte " + (44 + i) + ": FRESH is 0", line.peek(97), 0);
            line.write(80, 81, 82);
            line.x.tick();
            DUE.is("outputs", line.x.actuator(0, 0), 81);
            line.write(80, 83);
            line.write(40 + i, line.peek(40 + i));
            line.x.tick();
            DUE.is("byte " + (40 + i) + ": not written", line.x.actuator(0, 0), 81);
            line.write(81, 84);
            line.x.tick();
            DUE.is("byte " + (40 + i) + ": FRESH was 0", line.x.actuator(0, 0), 0);
            DUE.is("byte " + (40 + i) + ": written", line.x.actuator(0, 1), 84);
            line.control(4);
            line.write(40 + i, line.peek(40 + i));
            DUE.is("byte " + (40 + i) + ": not written", line.control(8), 20 + 256 * 27);
        }
        // A write of four bits leaves the others as they are in DONE of the INBOX.
        for (int i = 0; i < 4; i++) {
            Line line = Line.inState(2, 0, 0);
            line.x.ask(0, 1, 2, 0xffffffff);
            line.write(32 + i, line.peek(32 + i));
            DUE.is("FULL", line.peek(48), 0);
            line.write(8, 0, 0, 44, 64, 0, 2);
            DUE.is("44 bits", line.send(11, 0, 0, 6, 1, 2, 0, 0, 0, 0), 1);
            line.x.tick();
            line.x.answer(0);
            line.x.ask(0, 2, 2, 0);
            line.x.tick();
            line.x.answer(0);
            DUE.is("byte " + (32 + i) + ": DONE was 0", line.got(5), 0);
        }
        for (int i = 0; i < 4; i++) {
            Line line = Line.inState(2, 0, 0);
            line.x.ask(0, 1, 1, 5);
            line.write(32 + i, line.peek(32 + i));
            line.write(8, 0, 0, 44, 64, 4, 2);
            DUE.is("44 bits from bit 4 on", line.send(11, 0, 0, 6, 0x10, 0, 0, 0, 0, 0), 1);
            line.x.tick();
            line.x.answer(0);
            DUE.is("byte " + (32 + i) + ": the kind in DONE was 0", line.got(2), 1);
            DUE.is("the index", line.got(1), 1);
        }
    }

    private static void clearingIsNoRenewal() {
        DUE.sentence("the AGE is 0 .. whenever DONE of channel 2 becomes what FRESH is by a frame");
        Line line = Line.inState(8, 1, 0);
        line.write(4, 2);
        line.write(43, 1);
        line.x.tick();
        DUE.is("age 2", line.state(), 8);
        line.write(43, 1);
        line.x.tick();
        DUE.is("cleared, which is no renewal", line.state(), 20 + 256 * 27);
    }

    private static void belowTheEnd() {
        DUE.sentence("It is ALLOWED if these are all below 128");
        for (int command : new int[] {1, 2, 4, 5, 7, 8}) {
            boolean writes = command == 2 || command == 5 || command == 8;
            for (int length = 1; length <= 8; length++) {
                for (int offset : new int[] {128 - length, 129 - length, 127}) {
                    if (offset > 127) {
                        continue;
                    }
                    boolean well = offset + length <= 128;
                    Line line = Line.withOne(0, 0);
                    line.write(120, 1, 2, 3, 4, 5, 6, 7, 8);
                    String what = "command " + command + ", " + length + " bytes from " + offset;
                    int[] bytes = {64, 64, 64, 64, 64, 64, 64, 64};
                    int address = command == 4 || command == 5 ? 1 : 0;
                    line.x.datagram(command, address, offset, length);
                    for (int i = 0; i < length; i++) {
                        line.x.data(0, i, bytes[i]);
                    }
                    line.x.send();
                    DUE.is(what, line.got(-1), well ? 1 : 0);
                    DUE.is(what + ": the address behind it", line.got(-2), 1);
                    for (int i = 0; i < length; i++) {
                        int held = offset + i - 119;
                        int read = command == 7 ? 64 | held : held;
                        DUE.is(what + ": data " + i, line.got(i), well && !writes ? read : 64);
                    }
                    for (int b = 120; b < 128; b++) {
                        boolean written = well && writes && within(b, offset, length);
                        DUE.is(what + ": byte " + b, line.peek(b), written ? 64 : b - 119);
                    }
                }
            }
        }
    }

    /** In SAFE, with channel 3 at 100; the sensors say 11 and 12 in DONE, FRESH is 0. */
    private static Line withInputs(int inputs) {
        Line line = Line.inState(4, 0, inputs);
        line.write(44, 100);
        line.x.sense(0, 0, 11);
        line.x.sense(0, 1, 12);
        line.x.tick();
        return line;
    }

    private static void inputsIfWritten() {
        DUE.sentence("INPUTS reading, if written");
        for (int inputs = 1; inputs <= 2; inputs++) {
            for (int first = 98; first <= 103; first++) {
                for (int length = 1; length <= 5; length++) {
                    String what = inputs + " inputs, " + length + " bytes from " + first;
                    boolean has = touches(first, length, 100, inputs);
                    Line line = withInputs(inputs);
                    DUE.is(what + ": read", line.read(first, length), 1);
                    DUE.is(what + ": write", line.write(first, new int[length]), has ? 0 : 1);
                    line.write(44, 100);
                    DUE.is(what + ": read, not written", line.read(first, length), has ? 0 : 1);
                    DUE.is(what + ": write, not written", line.write(first, new int[length]), has ? 0 : 1);
                    line.x.tick();
                    DUE.is(what + ": read, written again", line.read(first, length), 1);
                }
            }
        }
        for (int c = 0; c < 3; c++) {
            Line line = Line.inState(4, 0, 1);
            channel(line, c, 110, 1, INPUTS);
            line.x.tick();
            DUE.is("INPUTS of channel " + c + " are not written by a tick", line.read(110, 1), 0);
        }
    }

    private static void outputsByWriting() {
        DUE.sentence("OUTPUTS writing");
        for (int c = 0; c < 4; c++) {
            for (int size = 1; size <= 8; size++) {
                for (int first = 98; first <= 100 + size; first++) {
                    for (int length = 1; length <= 8; length++) {
                        Line line = Line.withOne(0, 0);
                        channel(line, c, 100, size, OUTPUTS);
                        boolean has = touches(first, length, 100, size);
                        String what = "channel " + c + ", LENGTH " + size + ", " + length + " bytes from " + first;
                        DUE.is(what + ": write", line.write(first, new int[length]), 1);
                        DUE.is(what + ": read", line.read(first, length), has ? 0 : 1);
                    }
                }
            }
        }
    }

    private static void inboxIfWholeAndEmpty() {
        DUE.sentence("INBOX writing, if FULL is 0 and the row has the whole area");
        for (int c = 0; c < 4; c++) {
            for (int size = 1; size <= 8; size++) {
                for (int first = 98; first <= 100 + size; first++) {
                    for (int length = 1; length <= 8; length++) {
                        Line line = Line.withOne(0, 0);
                        channel(line, c, 100, size, INBOX);
                        boolean has = touches(first, length, 100, size);
                        boolean whole = covers(first, length, 100, size);
                        String what = "channel " + c + ", LENGTH " + size + ", " + length + " bytes from " + first;
                        DUE.is(what + ": read", line.read(first, length), has ? 0 : 1);
                        DUE.is(what + ": write", line.write(first, new int[length]), whole || !has ? 1 : 0);
                        DUE.is(what + ": FULL", line.peek(48 + c), whole ? 1 : 0);
                        line.write(100, new int[size]);
                        DUE.is(what + ": FULL", line.peek(48 + c), 1);
                        DUE.is(what + ": read while it is full", line.read(first, length), has ? 0 : 1);
                        DUE.is(what + ": write while it is full", line.write(first, new int[length]), has ? 0 : 1);
                    }
                }
            }
        }
    }

    private static void outboxIfWholeAndFull() {
        DUE.sentence("OUTBOX reading, if FULL is 1 and the row has the whole area. .. when OUTBOX was read, FULL becomes 0");
        for (int first = 68; first <= 78; first++) {
            for (int length = 1; length <= 8; length++) {
                String what = length + " bytes from " + first;
                boolean has = touches(first, length, 72, 6);
                boolean whole = covers(first, length, 72, 6);
                boolean message = touches(first, length, 64, 6);
                Line line = Line.inState(2, 0, 0);
                DUE.is(what + ": read while it is empty", line.read(first, length), has || message ? 0 : 1);
                DUE.is(what + ": write while it is empty", line.write(first, new int[length]), has || message ? 0 : 1);
                line.x.ask(0, 2, 0, 0);
                line.x.tick();
                DUE.is("FULL", line.peek(49), 1);
                DUE.is(what + ": write", line.write(first, new int[length]), has || message ? 0 : 1);
                DUE.is(what + ": read", line.read(first, length), message || has && !whole ? 0 : 1);
                if (whole && !message) {
                    DUE.is(what + ": kind", line.got(72 - first), 2);
                    DUE.is(what + ": the last byte but two", line.got(75 - first), 1000 / 256);
                }
                DUE.is(what + ": FULL", line.peek(49), whole && !message ? 0 : 1);
            }
        }
    }

    private static void eachChannelOfTheRow() {
        DUE.sentence("and each channel whose bytes are among them allows it");
        for (int mode = 0; mode <= 4; mode++) {
            for (int other = 0; other <= 4; other++) {
                Line line = Line.withOne(0, 0);
                channel(line, 2, 100, 2, mode);
                channel(line, 1, 102, 2, other);
                boolean takes = mode == OUTPUTS || mode == INBOX;
                boolean otherTakes = other == OUTPUTS || other == INBOX;
                String what = "MODE " + mode + " and " + other + ": ";
                DUE.is(what + "both", line.write(99, 1, 2, 3, 4, 5, 6), takes && otherTakes ? 1 : 0);
                DUE.is(what + "the byte before", line.peek(99), takes && otherTakes ? 1 : 0);
                DUE.is(what + "the byte behind", line.peek(104), takes && otherTakes ? 6 : 0);
                DUE.is(what + "FULL of 2", line.peek(50), mode == INBOX && otherTakes ? 1 : 0);
                DUE.is(what + "FULL of 1", line.peek(49), other == INBOX && takes ? 1 : 0);
                boolean full = mode == INBOX && otherTakes;
                DUE.is(what + "the first one", line.write(99, 1, 2, 3), takes && !full ? 1 : 0);
                boolean otherFull = other == INBOX && takes;
                DUE.is(what + "the second one", line.write(102, 4, 5, 6), otherTakes && !otherFull ? 1 : 0);
            }
        }
    }

    private static void nothingOfItIsDone() {
        DUE.sentence("If it is not allowed nothing of it is done.");
        Line boxes = Line.withOne(0, 0);
        channel(boxes, 0, 100, 1, INBOX);
        channel(boxes, 1, 101, 1, INBOX);
        boxes.write(101, 5);
        DUE.is("one INBOX of two is full", boxes.write(99, 7, 7, 7, 7), 0);
        DUE.is("the plain byte before", boxes.peek(99), 0);
        DUE.is("the plain byte behind", boxes.peek(102), 0);
        DUE.is("FULL of the other one", boxes.peek(48), 0);

        Line outputs = Line.inState(8, 2, 0);
        outputs.write(80, 1, 2);
        channel(outputs, 3, 82, 1, INPUTS);
        DUE.is("OUTPUTS and INPUTS", outputs.write(80, 8, 9, 9), 0);
        outputs.write(81, 3);
        outputs.x.tick();
        DUE.is("FRESH is what it was", outputs.x.actuator(0, 0), 1);
        DUE.is("FRESH is what it was", outputs.x.actuator(0, 1), 3);

        Line empty = Line.inState(4, 0, 2);
        empty.write(44, 78);
        empty.x.sense(0, 1, 12);
        empty.x.tick();
        DUE.is("OUTBOX is empty, INPUTS are written", empty.read(72, 8), 0);
        DUE.is("FRESH is what it was", empty.peek(79), 0);
        empty.write(44, 78);
        empty.x.ask(0, 2, 0, 0);
        empty.control(2);
        DUE.is("OUTBOX is full, INPUTS are not written", empty.read(72, 8), 0);
        DUE.is("OUTBOX is still full", empty.peek(49), 1);
        empty.control(4);
        DUE.is("OUTBOX is full, INPUTS are written", empty.read(72, 8), 1);
        DUE.is("the last byte", empty.got(7), 12);
        DUE.is("OUTBOX is empty", empty.peek(49), 0);

        Line end = Line.withOne(1, 0);
        channel(end, 0, 126, 2, INBOX);
        DUE.is("a row beyond the end", end.write(125, 1, 2, 3, 4), 0);
        DUE.is("the INBOX is empty", end.peek(48), 0);
        DUE.is("the plain byte", end.peek(125), 0);
    }

    private static void firstByteOfInputs() {
        DUE.sentence("where the row has the first byte of INPUTS, FRESH becomes what DONE is before anything is read");
        for (int first = 98; first <= 102; first++) {
            for (int length = 1; length <= 5; length++) {
                String what = length + " bytes from " + first;
                boolean renews = within(100, first, length);
                Line line = withInputs(2);
                line.read(first, length);
                for (int i = 0; i < length; i++) {
                    int b = first + i;
                    int due = renews && b == 100 ? 11 : renews && b == 101 ? 12 : 0;
                    DUE.is(what + ": byte " + b, line.got(i), due);
                }
                DUE.is(what + ": the second byte then", line.peek(101), renews ? 12 : 0);
                line.x.sense(0, 1, 22);
                line.x.tick();
                DUE.is(what + ": the second byte behind a tick", line.peek(101), renews ? 12 : 0);
            }
        }
        Line one = withInputs(1);
        DUE.is("one input: its byte is the first", one.peek(100), 11);
    }

    private static void lastByteOfOutputs() {
        DUE.sentence("when the row had the last byte of OUTPUTS, DONE becomes what FRESH is, and it is written");
        for (int size = 1; size <= 8; size++) {
            for (int first = 98; first <= 100 + size; first++) {
                for (int length = 1; length <= 8; length++) {
                    Line line = Line.inState(4, 2, 0);
                    channel(line, 2, 100, size, OUTPUTS);
                    line.write(first, new int[length]);
                    boolean last = within(100 + size - 1, first, length);
                    String what = "LENGTH " + size + ", " + length + " bytes from " + first;
                    DUE.is(what + ": RUN", line.control(8), last ? 8 : 20 + 256 * 27);
                }
            }
        }
        Line line = Line.inState(8, 2, 0);
        line.write(80, 5);
        line.x.tick();
        DUE.is("FRESH alone", line.x.actuator(0, 0), 0);
        line.write(79, 1, 6);
        line.x.tick();
        DUE.is("FRESH alone, with a byte before", line.x.actuator(0, 0), 0);
        line.write(81, 7, 1);
        line.x.tick();
        DUE.is("the last byte, with a byte behind", line.x.actuator(0, 0), 6);
        DUE.is("the last byte, with a byte behind", line.x.actuator(0, 1), 7);
    }

    private static void firstByteThatIsAnothers() {
        DUE.sentence("(FIRST and last byte of an area, if they are the channel's.)");
        Line line = Line.inState(4, 0, 2);
        line.write(44, 77);
        line.x.sense(0, 0, 11);
        line.x.sense(0, 1, 12);
        line.x.ask(0, 2, 0, 0);
        line.x.tick();
        DUE.is("OUTBOX has the first byte of INPUTS", line.read(72, 7), 1);
        DUE.is("the byte of the OUTBOX", line.got(5), 0);
        DUE.is("the second byte of INPUTS is not renewed", line.got(6), 0);
        line.write(39, 0);
        DUE.is("the first byte is its own again", line.read(77, 2), 1);
        DUE.is("renewed", line.got(0), 11);
        DUE.is("renewed", line.got(1), 12);
    }

    private static void lastByteThatIsAnothers() {
        DUE.sentence("(FIRST and last byte of an area, if they are the channel's.)");
        for (int mode : new int[] {OUTPUTS, INBOX}) {
            Line line = Line.inState(4, 2, 0);
            channel(line, 0, 81, 1, mode);
            DUE.is("both bytes", line.write(80, 5, 6), 1);
            DUE.is("MODE " + mode + " has the last byte: not written", line.control(8), 20 + 256 * 27);
            line.write(35, 0);
            line.write(81, 7);
            DUE.is("the last byte is its own again", line.control(24), 8);
            DUE.is("FRESH had the first one", line.x.actuator(0, 0), 5);
            DUE.is("the last one was not in FRESH", line.x.actuator(0, 1), 7);
            line.write(4, 2);
            line.x.tick();
            channel(line, 0, 81, 1, mode);
            DUE.is("both bytes", line.write(80, 5, 6), 1);
            line.x.tick();
            DUE.is("MODE " + mode + " has the last byte: the age goes on", line.state(), 20 + 256 * 27);
        }
    }

    private static void wholeAreaThatIsPartlyAnothers() {
        DUE.sentence("the row has the whole area");
        Line line = Line.withOne(0, 0);
        channel(line, 1, 100, 4, INBOX);
        channel(line, 0, 102, 4, OUTPUTS);
        DUE.is("its own bytes alone", line.write(100, 1, 2), 0);
        DUE.is("one byte too few", line.write(100, 1, 2, 3), 0);
        DUE.is("the other's bytes alone", line.write(102, 1, 2), 1);
        DUE.is("not full", line.peek(49), 0);
        DUE.is("the whole area", line.write(100, 1, 2, 3, 4), 1);
        DUE.is("full", line.peek(49), 1);
        DUE.is("the other's bytes alone", line.write(102, 1, 2), 1);
        Line hidden = Line.withOne(0, 0);
        channel(hidden, 1, 100, 2, INBOX);
        channel(hidden, 0, 99, 4, OUTPUTS);
        DUE.is("an INBOX without a byte of its own", hidden.write(100, 1, 2), 1);
        DUE.is("it is not written", hidden.peek(49), 0);
        DUE.is("a part of it", hidden.write(101, 1), 1);
    }
}
