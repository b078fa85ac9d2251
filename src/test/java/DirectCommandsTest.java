/** Promise 5 with commands 1, 2, 4, 5, 7 and 8: which station does a datagram, and what it does. */
public final class DirectCommandsTest {
    private static final Due DUE = new Due();

    public static void main(String[] args) {
        position();
        fixed();
        all();
        endOfMemory();
        bytesThatFramesDoNotChange();
        datagramsInTheirOrder();
        DUE.end();
    }

    private static Line three() {
        Line line = new Line();
        for (int s = 0; s < 3; s++) {
            line.x.station(0, 0);
        }
        return line;
    }

    private static void position() {
        Line line = three();
        for (int s = 0; s < 3; s++) {
            int address = (65536 - s) % 65536;
            DUE.is("write by position " + s, line.send(2, address, 100, 2, 10 + s, 20 + s), 1);
            DUE.is("the address behind three", line.got(-2), 3 - s);
        }
        for (int s = 0; s < 3; s++) {
            int address = (65536 - s) % 65536;
            DUE.is("read by position " + s, line.send(1, address, 100, 3, 255, 255, 255), 1);
            DUE.is("what is read takes the place of the data", line.got(0), 10 + s);
            DUE.is("byte 1", line.got(1), 20 + s);
            DUE.is("byte 2", line.got(2), 0);
        }
        DUE.is("no station finds 0", line.send(1, 1, 100, 1, 7), 0);
        DUE.is("the data stay", line.got(0), 7);
        DUE.is("the address", line.got(-2), 4);
        DUE.is("one too far behind", line.send(2, 65533, 100, 1, 7), 0);
        DUE.is("the address is modulo 65536", line.got(-2), 0);
    }

    private static void fixed() {
        Line line = three();
        DUE.is("ADDRESS is 0 at first", line.send(5, 0, 100, 1, 9), 3);
        DUE.is("the address stays", line.got(-2), 0);
        line.x.scan();
        DUE.is("nobody is 0 now", line.send(4, 0, 100, 1, 3), 0);
        DUE.is("the data stay", line.got(0), 3);
        DUE.is("write to 2", line.send(5, 2, 100, 1, 33), 1);
        DUE.is("read from 2", line.send(4, 2, 100, 1, 255), 1);
        DUE.is("it takes the place", line.got(0), 33);
        DUE.is("the address stays", line.got(-2), 2);
        line.send(4, 1, 100, 1);
        DUE.is("station 1's is untouched", line.got(0), 9);
        line.send(2, 65534, 0, 1, 2);
        DUE.is("write to two stations", line.send(5, 2, 101, 1, 4), 2);
        line.send(5, 2, 102, 1, 1);
        line.send(2, 65535, 102, 1, 240);
        line.send(2, 65534, 102, 1, 15);
        DUE.is("read from two stations", line.send(4, 2, 102, 1), 2);
        DUE.is("the later one's takes the place", line.got(0), 15);
        DUE.is("ADDRESS is one byte", line.send(4, 256 + 2, 102, 1), 0);
        DUE.is("ADDRESS 255", line.send(8, 0, 0, 1, 255), 3);
        DUE.is("ADDRESS 255", line.send(4, 255, 0, 1), 3);
    }

    private static void all() {
        Line line = three();
        DUE.is("write to all", line.send(8, 65534, 100, 2, 1, 128), 3);
        DUE.is("the address, modulo", line.got(-2), 1);
        line.send(2, 65535, 100, 1, 6);
        DUE.is("read from all", line.send(7, 5, 100, 3, 64, 0, 16), 3);
        DUE.is("or-ed into the data", line.got(0), 64 | 1 | 6);
        DUE.is("or-ed into the data", line.got(1), 128);
        DUE.is("or-ed into the data", line.got(2), 16);
        DUE.is("the address", line.got(-2), 8);
    }

    private static void endOfMemory() {
        Line line = three();
        for (int command : new int[] {1, 2, 7, 8}) {
            DUE.is("up to 127, command " + command, line.send(command, 0, 120, 8) > 0, true);
            DUE.is("up to 128, command " + command, line.send(command, 0, 121, 8, 5), 0);
            DUE.is("the data stay", line.got(0), 5);
            DUE.is("from 127, command " + command, line.send(command, 0, 127, 2, 5), 0);
        }
        line.send(7, 0, 120, 8);
        DUE.is("nothing of it was done", line.got(1), 0);
        DUE.is("nothing of it was done", line.got(7), 0);
    }

    private static void bytesThatFramesDoNotChange() {
        Line line = Line.withOne(0, 0);
        DUE.is("a write to 0 .. 7", line.write(0, 1, 1, 99, 98, 97, 96, 95, 94), 1);
        int[] due = {1, 1, 1, 0, 97, 96, 95, 94};
        for (int i = 0; i < due.length; i++) {
            DUE.is("byte " + i, line.peek(i), due[i]);
        }
        DUE.is("a write to 47 .. 53", line.write(47, 9, 1, 1, 1, 1, 7, 8), 1);
        int[] behind = {9, 0, 0, 0, 0, 7, 8};
        for (int i = 0; i < behind.length; i++) {
            DUE.is("byte " + (47 + i), line.peek(47 + i), behind[i]);
        }
        DUE.is("a write to 2 alone", line.write(2, 8), 1);
        DUE.is("the state stays", line.state(), 1);
    }

    private static void datagramsInTheirOrder() {
        Line line = three();
        StationLine x = line.x;
        x.datagram(1, 0, 100, 1);
        x.datagram(2, 0, 100, 1);
        x.data(1, 0, 50);
        x.datagram(1, 0, 100, 1);
        DUE.is("send()", x.send(), 1);
        DUE.is("before the write", x.returned(0, 0), 0);
        DUE.is("what was written stays in the data", x.returned(1, 0), 50);
        DUE.is("behind the write", x.returned(2, 0), 50);
        x.datagram(8, 0, 0, 1);
        x.data(0, 0, 40);
        x.datagram(4, 40, 100, 1);
        DUE.is("send()", x.send(), 1);
        DUE.is("an address that was written in the same frame", x.returned(1, -1), 3);
    }
}
