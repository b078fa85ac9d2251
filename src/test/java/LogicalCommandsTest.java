/** Promise 5 with commands 10, 11 and 12: maps. */
public final class LogicalCommandsTest {
    private static final Due DUE = new Due();

    public static void main(String[] args) {
        typesAndCommands();
        bitsOfBytes();
        partsOfMaps();
        counts();
        endOfMemory();
        severalMaps();
        dataAsTheyCame();
        aMapThatWritesAMap();
        throughChannels();
        otherBitsOfAnInbox();
        readOnlyBytes();
        severalStations();
        DUE.end();
    }

    private static void map(Line line, int m, int... fields) {
        line.write(8 + 6 * m, fields);
    }

    private static void typesAndCommands() {
        for (int type = 0; type <= 7; type++) {
            for (int command = 10; command <= 12; command++) {
                Line line = Line.withOne(0, 0);
                line.write(100, 0x55);
                map(line, 0, 3, 0, 8, 100, 0, type);
                boolean reads = (type & 1) != 0 && command != 11;
                boolean writes = (type & 2) != 0 && command != 10;
                int due = (reads ? 1 : 0) + (writes ? command == 12 ? 2 : 1 : 0);
                String what = "type " + type + ", command " + command;
                DUE.is(what, line.send(command, 3, 0, 1, 0x0f), due);
                DUE.is(what + ": the data", line.got(0), reads ? 0x55 : 0x0f);
                DUE.is(what + ": the address", line.got(-2), 3);
                DUE.is(what + ": the byte", line.peek(100), writes ? 0x0f : 0x55);
            }
        }
    }

    private static void bitsOfBytes() {
        Line line = Line.withOne(0, 0);
        line.write(100, 0xff, 0xff);
        // Logical bits 8 * 5 + 2 and on are bits 6 and on of byte 100: the bits above 7 are of no meaning.
        map(line, 0, 5, 8 + 2, 4, 100, 16 + 6, 3);
        DUE.is("exchange", line.send(12, 5, 0, 1, 0b00010100), 3);
        DUE.is("four bits are read", line.got(0), 0b00111100);
        DUE.is("bits 6 and 7", line.peek(100), 0b01111111);
        DUE.is("bits 0 and 1", line.peek(101), 0b11111101);
        DUE.is("read", line.send(10, 4, 0, 3, 1, 255, 2), 1);
        DUE.is("data beside them stay", line.got(0), 1);
        DUE.is("four bits are read", line.got(1), 0b11010111);
        DUE.is("data beside them stay", line.got(2), 2);
    }

    private static void partsOfMaps() {
        Line line = Line.withOne(0, 0);
        line.write(100, 1, 2, 3, 4, 5, 6, 7, 8);
        map(line, 0, 10, 0, 64, 100, 0, 3);
        DUE.is("the byte before", line.send(10, 9, 0, 1), 0);
        DUE.is("the byte behind", line.send(10, 18, 0, 1), 0);
        DUE.is("the last byte", line.send(10, 17, 0, 1), 1);
        DUE.is("the last byte", line.got(0), 8);
        DUE.is("from before it on", line.send(10, 7, 0, 8), 1);
        DUE.is("before it", line.got(2), 0);
        DUE.is("its first byte", line.got(3), 1);
        DUE.is("its fifth byte", line.got(7), 5);
        DUE.is("a write in the midst", line.send(11, 12, 0, 2, 33, 44), 1);
        DUE.is("before it", line.peek(101), 2);
        DUE.is("its bytes", line.peek(102), 33);
        DUE.is("its bytes", line.peek(103), 44);
        DUE.is("behind it", line.peek(104), 5);
        DUE.is("an address far away", line.send(12, 65535, 0, 8), 0);
        map(line, 0, 10, 0, 64, 100, 4, 2);
        DUE.is("64 bits in nine bytes", line.send(11, 10, 0, 8, 255, 255, 255, 255, 255, 255, 255, 255), 1);
        DUE.is("the first of nine bytes", line.peek(100), 0xf1);
        DUE.is("the eighth of nine bytes", line.peek(107), 0xff);
        DUE.is("the last of nine bytes", line.peek(108), 0x0f);
        line.write(32, 10, 0, 8, 110, 0, 3);
        DUE.is("there is no fifth map", line.send(10, 10, 0, 1), 0);
        map(line, 1, 255, 7, 8, 110, 0, 3);
        DUE.is("logical bits 2047 to 2054", line.send(12, 255, 0, 1, 128), 3);
        DUE.is("the bit", line.peek(110), 1);
        DUE.is("logical bits 2048 to 2054", line.send(11, 256, 0, 1, 127), 1);
        DUE.is("the bits", line.peek(110), 255);
    }

    private static void counts() {
        for (int count : new int[] {0, 1, 64, 65, 255}) {
            Line line = Line.withOne(0, 0);
            map(line, 0, 0, 0, count, 100, 0, 2);
            DUE.is("COUNT " + count, line.send(11, 0, 0, 1, 255), count == 1 || count == 64 ? 1 : 0);
            DUE.is("COUNT " + count + ": the byte", line.peek(100), count == 1 ? 1 : count == 64 ? 255 : 0);
        }
    }

    private static void endOfMemory() {
        Line line = Line.withOne(0, 0);
        map(line, 0, 0, 0, 16, 127, 0, 3);
        DUE.is("a part that is below 128", line.send(12, 0, 0, 1, 9), 3);
        DUE.is("the byte", line.peek(127), 9);
        DUE.is("with a bit that is not", line.send(12, 0, 0, 2, 7), 0);
        DUE.is("the data stay", line.got(0), 7);
        DUE.is("the byte", line.peek(127), 9);
        DUE.is("the part that is not", line.send(12, 1, 0, 1, 7), 0);
        map(line, 0, 0, 0, 2, 127, 7, 3);
        DUE.is("a bit of byte 128", line.send(12, 0, 0, 1), 0);
        map(line, 0, 0, 0, 1, 127, 7, 3);
        DUE.is("the last bit", line.send(12, 0, 0, 1), 3);
        map(line, 0, 0, 0, 8, 255, 7, 3);
        DUE.is("far beyond", line.send(12, 0, 0, 1), 0);
    }

    private static void severalMaps() {
        Line line = Line.withOne(0, 0);
        line.write(100, 1, 2, 3, 4);
        for (int m = 0; m < 4; m++) {
            map(line, m, m, 0, 8, 103 - m, 0, 3);
        }
        DUE.is("four maps count once", line.send(12, 0, 0, 4, 11, 12, 13, 14), 3);
        for (int i = 0; i < 4; i++) {
            DUE.is("data " + i, line.got(i), 4 - i);
        }
        for (int i = 0; i < 4; i++) {
            DUE.is("byte " + (100 + i), line.peek(100 + i), 14 - i);
        }
        map(line, 0, 0, 0, 8, 110, 0, 1);
        map(line, 1, 0, 0, 8, 111, 0, 1);
        line.write(110, 5, 6);
        line.send(10, 0, 0, 1);
        DUE.is("a later map's bits take the place", line.got(0), 6);
        map(line, 0, 0, 0, 8, 112, 0, 2);
        DUE.is("one reads, one writes", line.send(12, 0, 0, 1, 77), 3);
        DUE.is("what is read", line.got(0), 6);
        DUE.is("what is written", line.peek(112), 77);
    }

    private static void dataAsTheyCame() {
        Line line = Line.withOne(0, 0);
        line.write(100, 5, 6);
        map(line, 0, 0, 0, 8, 100, 0, 1);
        map(line, 1, 0, 0, 8, 101, 0, 2);
        DUE.is("exchange", line.send(12, 0, 0, 1, 99), 3);
        DUE.is("read by map 0", line.got(0), 5);
        DUE.is("written by map 1 as it came", line.peek(101), 99);
    }

    private static void aMapThatWritesAMap() {
        Line line = Line.withOne(0, 0);
        map(line, 0, 0, 0, 8, 17, 0, 2);
        map(line, 1, 1, 0, 8, 100, 0, 2);
        DUE.is("write", line.send(11, 0, 0, 2, 110, 9), 1);
        DUE.is("map 1 is another one when its turn comes", line.peek(110), 9);
        DUE.is("not the old one", line.peek(100), 0);
    }

    private static void throughChannels() {
        Line line = Line.withOne(2, 0);
        line.write(40, 80, 2, 2, 1);
        map(line, 0, 0, 0, 16, 80, 0, 3);
        DUE.is("OUTPUTS are not read, but written", line.send(12, 0, 0, 2, 0x34, 0x12), 2);
        DUE.is("the data stay", line.got(0), 0x34);
        line.write(32, 64, 2, 3, 1);
        map(line, 0, 0, 0, 7, 64, 6, 2);
        DUE.is("seven bits of both bytes of an INBOX", line.send(11, 0, 0, 1, 0x7f), 1);
        DUE.is("it is full", line.peek(48), 1);
        DUE.is("full: not again", line.send(11, 0, 0, 1, 0x7f), 0);
        line.write(32, 64, 2, 3, 1);
        map(line, 0, 0, 0, 2, 64, 6, 2);
        DUE.is("bits of one byte are not the whole area", line.send(11, 0, 0, 1, 3), 0);

        Line run = Line.inState(8, 2, 0);
        map(run, 0, 0, 0, 12, 80, 2, 2);
        run.send(11, 0, 0, 2, 0xff, 0xff);
        run.x.tick();
        DUE.is("other bits are as in FRESH", run.x.actuator(0, 0), 0xfc);
        DUE.is("other bits are as in FRESH", run.x.actuator(0, 1), 0x3f);
        run.send(11, 0, 0, 1, 0);
        run.write(80, 0x03);
        run.send(11, 0, 0, 2, 0, 0);
        run.x.tick();
        DUE.is("other bits are as in FRESH", run.x.actuator(0, 0), 0x03);
        DUE.is("other bits are as in FRESH", run.x.actuator(0, 1), 0);

        Line ready = Line.inState(2, 0, 0);
        map(ready, 0, 0, 0, 40, 72, 4, 1);
        ready.x.ask(0, 2, 0, 0);
        ready.x.tick();
        DUE.is("40 bits in six bytes of an OUTBOX", ready.send(10, 0, 0, 5), 1);
        DUE.is("they are bits 4 and on", ready.got(1), (1000 << 4) & 255);
        DUE.is("it is empty then", ready.peek(49), 0);
        // 48 bits beginning with bit 4 of the byte before the INBOX lie in seven bytes.
        map(ready, 0, 0, 0, 48, 63, 4, 2);
        DUE.is("the row has the whole area, if not all of its bits", ready.send(11, 0, 0, 6, 0x20, 0, 0, 0, 0, 0), 1);
        ready.x.tick();
        DUE.is("reply", ready.x.answer(0), 1);
        DUE.is("kind 2, index 0: the lowest bits were those of DONE", ready.got(0), 2);
    }

    /** The value that a message of 44 bits leaves, beginning with bit 0 of the INBOX, when DONE has the rest. */
    private static int valueByPart(boolean cleared) {
        Line line = Line.inState(2, 0, 0);
        line.x.ask(0, 1, 1, 0xa0000000);
        line.x.tick();
        line.x.answer(0);
        if (cleared) {
            line.write(35, 1);
        }
        map(line, 0, 0, 0, 44, 64, 0, 2);
        DUE.is("44 bits in six bytes of an INBOX", line.send(11, 0, 0, 6, 1, 1, 7, 0, 0, 0xf5), 1);
        line.x.tick();
        line.x.answer(0);
        line.x.ask(0, 2, 1, 0);
        line.x.tick();
        line.x.answer(0);
        DUE.is("byte 0 of the value", line.got(2), 7);
        return line.got(5);
    }

    private static void otherBitsOfAnInbox() {
        DUE.is("other bits are as in DONE", valueByPart(false), 0xa5);
        DUE.is("other bits are as in DONE, which was cleared", valueByPart(true), 0x05);
    }

    private static void readOnlyBytes() {
        Line line = Line.withOne(0, 0);
        map(line, 0, 0, 0, 16, 2, 0, 3);
        DUE.is("STATUS and CODE", line.send(12, 0, 0, 2, 255, 255), 3);
        DUE.is("STATUS is read", line.got(0), 1);
        DUE.is("what was written is lost", line.peek(2), 1);
        map(line, 0, 0, 0, 4, 1, 0, 2);
        line.send(11, 0, 0, 1, 7);
        line.x.tick();
        DUE.is("some bits of CONTROL are a request", line.state(), 17 + 256 * 18);
        Line box = Line.withOne(0, 0);
        box.write(32, 64, 1, 3, 1);
        box.write(64, 1);
        map(box, 0, 0, 0, 1, 33, 0, 2);
        box.send(11, 0, 0, 1, 1);
        DUE.is("some bits of LENGTH clear the channel", box.peek(48), 0);
        DUE.is("LENGTH is the same", box.peek(33), 1);
    }

    private static void severalStations() {
        Line line = new Line();
        line.x.station(0, 0);
        line.x.station(0, 0);
        line.x.scan();
        line.send(8, 0, 8, 6, 0, 0, 8, 100, 0, 3);
        line.send(5, 1, 100, 1, 10);
        line.send(5, 2, 100, 1, 20);
        DUE.is("both exchange", line.send(12, 0, 0, 1, 5), 6);
        DUE.is("the data of the last one", line.got(0), 20);
        line.send(4, 1, 100, 1);
        DUE.is("station 0 got the master's", line.got(0), 5);
        line.send(4, 2, 100, 1);
        DUE.is("station 1 got station 0's", line.got(0), 10);
    }
}
