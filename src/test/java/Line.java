/** What several tests do with a line: frames with one datagram, and stations in a certain state. */
final class Line {
    /** No answer that any test takes for right. */
    private static final int REFUSED = -99;

    final StationLine x = new StationLine();

    /** A new line with one station, whose ADDRESS is 1. */
    static Line withOne(int outputs, int inputs) {
        Line line = new Line();
        line.x.station(outputs, inputs);
        line.x.scan();
        return line;
    }

    /** The same, set up and in the state that is asked for (with outputs 0, if that is RUN). */
    static Line inState(int state, int outputs, int inputs) {
        Line line = withOne(outputs, inputs);
        line.x.setup();
        for (int next = 2; next <= state; next *= 2) {
            if (next == 8) {
                line.x.cycle();
            }
            line.control(next);
        }
        return line;
    }

    int state() {
        return x.state(0);
    }

    /** A request to all stations and a tick: the state of station 0 then. */
    int control(int control) {
        x.request(control);
        x.tick();
        return x.state(0);
    }

    /** Writes bytes of the station with ADDRESS 1: the counter. */
    int write(int offset, int... bytes) {
        return send(5, 1, offset, bytes.length, bytes);
    }

    /** Reads bytes of the station with ADDRESS 1: the counter. */
    int read(int offset, int length) {
        return send(4, 1, offset, length);
    }

    /** Reads one byte of the station with ADDRESS 1, or -1 if that is not allowed. */
    int peek(int offset) {
        return read(offset, 1) == 1 ? x.returned(0, 0) : -1;
    }

    /** Sends a frame with one datagram: its counter, -1 if it does not come back, REFUSED if there is none. */
    int send(int command, int address, int offset, int length, int... bytes) {
        if (x.datagram(command, address, offset, length) != 0) {
            return REFUSED;
        }
        for (int i = 0; i < bytes.length; i++) {
            x.data(0, i, bytes[i]);
        }
        x.send();
        return x.returned(0, -1);
    }

    int got(int i) {
        return x.returned(0, i);
    }
}
