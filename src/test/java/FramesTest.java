/** Promises 3, 4, 5 and 6. */
public final class FramesTest {
    private static final Due DUE = new Due();

    public static void main(String[] args) {
        places();
        refusedDatagrams();
        dataBytes();
        sending();
        masterLeavesTheReadyFrame();
        whatReturned();
        DUE.end();
    }

    private static void places() {
        for (int command : new int[] {1, 2, 4, 5, 7, 8, 10, 11, 12}) {
            StationLine x = new StationLine();
            DUE.is("first, command " + command, x.datagram(command, 65535, 127, 8), 0);
            DUE.is("second, command " + command, x.datagram(command, 0, 0, 1), 1);
            DUE.is("third, command " + command, x.datagram(command, 0, 0, 1), 2);
            DUE.is("fourth, command " + command, x.datagram(command, 0, 0, 1), -1);
            DUE.is("send()", x.send(), 1);
            DUE.is("first of the next frame", x.datagram(command, 0, 0, 1), 0);
        }
    }

    private static void refusedDatagrams() {
        StationLine x = new StationLine();
        for (int command : new int[] {-1, 0, 3, 6, 9, 13, 255, Integer.MIN_VALUE, Integer.MAX_VALUE}) {
            DUE.is("command " + command, x.datagram(command, 0, 0, 1), -1);
        }
        for (int address : new int[] {-1, 65536, Integer.MIN_VALUE, Integer.MAX_VALUE}) {
            DUE.is("address " + address, x.datagram(1, address, 0, 1), -1);
            DUE.is("logical address " + address, x.datagram(12, address, 0, 1), -1);
        }
        for (int offset : new int[] {-1, 128, Integer.MIN_VALUE, Integer.MAX_VALUE}) {
            for (int command : new int[] {1, 2, 4, 5, 7, 8}) {
                DUE.is("offset " + offset + ", command " + command, x.datagram(command, 0, offset, 1), -1);
            }
        }
        for (int length : new int[] {-1, 0, 9, Integer.MIN_VALUE, Integer.MAX_VALUE}) {
            DUE.is("length " + length, x.datagram(8, 0, 0, length), -1);
            DUE.is("logical length " + length, x.datagram(10, 0, 0, length), -1);
        }
        DUE.is("nothing was appended", x.send(), -1);
        DUE.is("an offset without meaning", x.datagram(10, 0, Integer.MIN_VALUE, 1), 0);
        DUE.is("an offset without meaning", x.datagram(11, 0, 128, 1), 1);
        DUE.is("an offset without meaning", x.datagram(12, 0, Integer.MAX_VALUE, 1), 2);
    }

    private static void dataBytes() {
        StationLine x = new StationLine();
        DUE.is("data(0, 0, 1) without a datagram", x.data(0, 0, 1), false);
        x.datagram(4, 9, 0, 2);
        x.datagram(4, 9, 0, 8);
        DUE.is("data(0, 0, 513)", x.data(0, 0, 513), true);
        DUE.is("data(0, 1, -1)", x.data(0, 1, -1), true);
        DUE.is("data(0, 2, 7)", x.data(0, 2, 7), false);
        DUE.is("data(0, -1, 7)", x.data(0, -1, 7), false);
        DUE.is("data(1, 7, 7)", x.data(1, 7, 7), true);
        DUE.is("data(1, 8, 7)", x.data(1, 8, 7), false);
        DUE.is("data(2, 0, 7)", x.data(2, 0, 7), false);
        DUE.is("data(-1, 0, 7)", x.data(-1, 0, 7), false);
        DUE.is("send()", x.send(), 1);
        DUE.is("the lowest eight bits", x.returned(0, 0), 1);
        DUE.is("the lowest eight bits", x.returned(0, 1), 255);
        DUE.is("data 0 at first", x.returned(1, 6), 0);
        DUE.is("the last byte", x.returned(1, 7), 7);
        DUE.is("no frame is ready any more", x.data(0, 0, 1), false);
        x.datagram(4, 9, 0, 2);
        x.datagram(4, 9, 0, 8);
        x.send();
        x.datagram(4, 9, 0, 2);
        x.datagram(4, 9, 0, 8);
        x.send();
        DUE.is("nothing is left of an earlier frame", x.returned(0, 0), 0);
        DUE.is("nothing is left of an earlier frame", x.returned(1, 7), 0);
        DUE.is("nothing is left of an earlier counter", x.returned(0, -1), 0);
    }

    private static void sending() {
        StationLine x = new StationLine();
        x.station(0, 0);
        x.datagram(7, 0, 2, 1);
        x.send();
        DUE.is("send() without datagrams", x.send(), -1);
        DUE.is("a refused send leaves what returned", x.returned(0, 0), 1);
        x.cut(0, true);
        x.datagram(7, 0, 2, 1);
        DUE.is("send() that does not come back", x.send(), 0);
        DUE.is("none is ready then", x.send(), -1);
        DUE.is("nothing returned", x.returned(0, 0), -1);
        x.cut(0, false);
        x.spoil(1);
        DUE.is("send() of none", x.send(), -1);
        x.datagram(7, 0, 2, 1);
        DUE.is("a refused send does not use up a spoil", x.send(), 0);
    }

    private static void masterLeavesTheReadyFrame() {
        Line line = Line.inState(4, 1, 1);
        StationLine x = line.x;
        x.datagram(5, 1, 100, 2);
        x.data(0, 1, 77);
        x.datagram(4, 1, 100, 2);
        x.scan();
        x.setup();
        x.request(4);
        x.cycle();
        x.ask(0, 2, 0, 0);
        x.answer(0);
        DUE.is("the frame is as it was", x.datagram(1, 3, 0, 1), 2);
        DUE.is("send()", x.send(), 1);
        DUE.is("its first datagram", x.returned(0, -1), 1);
        DUE.is("its second datagram", x.returned(1, 1), 77);
        DUE.is("its third datagram", x.returned(2, -2), 4);
    }

    private static void whatReturned() {
        Line line = Line.withOne(0, 0);
        StationLine x = line.x;
        x.datagram(7, 65535, 2, 2);
        x.datagram(4, 1, 0, 1);
        DUE.is("before it is sent: of the scan", x.returned(0, -2), 1);
        x.send();
        DUE.is("byte 0", x.returned(0, 0), 1);
        DUE.is("byte 1", x.returned(0, 1), 0);
        DUE.is("byte 2", x.returned(0, 2), -1);
        DUE.is("byte -3", x.returned(0, -3), -1);
        DUE.is("byte of an int", x.returned(0, Integer.MAX_VALUE), -1);
        DUE.is("byte of an int", x.returned(0, Integer.MIN_VALUE), -1);
        DUE.is("counter", x.returned(0, -1), 1);
        DUE.is("address", x.returned(0, -2), 0);
        DUE.is("the second one's byte", x.returned(1, 0), 1);
        DUE.is("the second one's address", x.returned(1, -2), 1);
        DUE.is("no third one", x.returned(2, -1), -1);
        DUE.is("no datagram -1", x.returned(-1, -1), -1);
        x.datagram(4, 9, 0, 8);
        x.data(0, 0, 99);
        DUE.is("making a frame ready does not change it", x.returned(0, 0), 1);
        x.request(1);
        DUE.is("frames of the master return too", x.returned(0, 0), 1);
        DUE.is("frames of the master return too", x.returned(1, 0), -1);
        x.spoil(0);
        x.request(1);
        DUE.is("nothing returned", x.returned(0, -1), -1);
        DUE.is("nothing returned", x.returned(0, -2), -1);
    }
}
