/** Promise 9, steps 3 to 5 of a station's tick: sensors, actuators and the watch. */
public final class ProcessTest {
    private static final Due DUE = new Due();

    public static void main(String[] args) {
        sensors();
        actuators();
        watch();
        watchAndRequests();
        noWatch();
        DUE.end();
    }

    private static void sensors() {
        Line line = Line.inState(2, 0, 1);
        line.x.sense(0, 0, 5);
        line.x.tick();
        DUE.is("READY: not written", line.read(96, 1), 0);
        line.control(4);
        DUE.is("SAFE: in the same tick", line.peek(96), 5);
        line.x.sense(0, 0, 6);
        line.control(8);
        DUE.is("RUN", line.peek(96), 6);
        line.x.sense(0, 0, 7);
        line.control(2);
        DUE.is("READY: as it was", line.peek(96), 6);
        line.control(4);
        DUE.is("SAFE again", line.peek(96), 7);
        line.control(7);
        line.x.sense(0, 0, 8);
        line.x.tick();
        DUE.is("with an error", line.peek(96), 8);
        line.write(45, 2);
        line.x.tick();
        DUE.is("another LENGTH", line.read(96, 2), 0);
        line.write(45, 1, 2);
        line.x.tick();
        DUE.is("another MODE", line.read(96, 1), 0);
        line.write(46, 0);
        DUE.is("before the tick", line.read(96, 1), 0);
        line.x.tick();
        DUE.is("as it should be", line.peek(96), 8);
        Line none = Line.inState(4, 0, 0);
        none.write(44, 96, 1, 0, 1);
        none.x.tick();
        DUE.is("no inputs", none.read(96, 1), 0);
    }

    private static void actuators() {
        Line line = Line.inState(4, 1, 0);
        line.x.output(0, 5);
        line.x.cycle();
        line.x.tick();
        DUE.is("SAFE", line.x.actuator(0, 0), 0);
        line.control(8);
        DUE.is("RUN: in the same tick", line.x.actuator(0, 0), 5);
        line.control(24 + 7);
        DUE.is("RUN with an error", line.state(), 24 + 256 * 18);
        line.x.output(0, 6);
        line.x.cycle();
        line.x.tick();
        DUE.is("RUN with an error goes on", line.x.actuator(0, 0), 6);
        line.write(40, 80);
        line.x.tick();
        DUE.is("not written: they stay", line.x.actuator(0, 0), 6);
        line.write(41, 2);
        line.write(80, 1, 1);
        line.x.tick();
        DUE.is("another LENGTH: they stay", line.x.actuator(0, 0), 6);
        line.write(41, 1);
        line.write(80, 9);
        line.x.tick();
        DUE.is("as it should be", line.x.actuator(0, 0), 9);
        for (int state : new int[] {4, 2, 1}) {
            Line run = Line.inState(8, 1, 0);
            run.write(80, 9);
            run.x.tick();
            DUE.is("RUN", run.x.actuator(0, 0), 9);
            run.x.request(state);
            DUE.is("before the tick", run.x.actuator(0, 0), 9);
            run.x.tick();
            DUE.is("state " + state, run.x.actuator(0, 0), 0);
        }
    }

    private static Line watched(int limit) {
        Line line = Line.inState(4, 1, 0);
        line.write(4, limit);
        line.x.output(0, 1);
        line.x.cycle();
        line.control(8);
        return line;
    }

    private static void watch() {
        for (int limit : new int[] {1, 2, 7, 255}) {
            Line line = watched(limit);
            for (int age = 1; age < limit; age++) {
                line.x.tick();
            }
            DUE.is("age " + limit, line.state(), 8);
            DUE.is("age " + limit, line.x.actuator(0, 0), 1);
            line.x.tick();
            DUE.is("age above " + limit, line.state(), 20 + 256 * 27);
            DUE.is("age above " + limit, line.x.actuator(0, 0), 0);
        }
        Line line = watched(2);
        for (int i = 0; i < 5; i++) {
            line.x.tick();
            line.x.cycle();
            line.x.tick();
        }
        DUE.is("outputs in time", line.state(), 8);
        line.x.tick();
        line.x.tick();
        DUE.is("outputs too late", line.state(), 20 + 256 * 27);
        DUE.is("no new output since the watch", line.control(24), 20 + 256 * 27);
        line.x.cycle();
        DUE.is("a new output", line.control(24), 8);
        DUE.is("a new output", line.x.actuator(0, 0), 1);

        Line part = Line.inState(4, 2, 0);
        part.write(4, 1);
        part.write(80, 1, 1);
        part.control(8);
        part.write(80, 1);
        part.x.tick();
        DUE.is("the first byte alone does not renew", part.state(), 20 + 256 * 27);
    }

    private static void watchAndRequests() {
        Line line = watched(2);
        line.x.tick();
        line.control(8);
        DUE.is("a request for RUN in RUN does not enter it", line.state(), 20 + 256 * 27);
        Line again = watched(2);
        again.x.tick();
        again.control(4);
        again.control(8);
        DUE.is("entered anew", again.state(), 8);
        again.x.tick();
        DUE.is("age 2", again.state(), 8);
        again.x.tick();
        DUE.is("age 3", again.state(), 20 + 256 * 27);
        Line once = Line.inState(4, 1, 0);
        once.write(4, 1);
        once.x.cycle();
        once.control(24);
        once.x.tick();
        once.x.cycle();
        once.x.tick();
        DUE.is("a request is not done again", once.state(), 20 + 256 * 27);
        Line wrong = watched(1);
        wrong.control(7);
        DUE.is("the watch has the last word on the error", wrong.state(), 20 + 256 * 27);
        Line late = watched(0);
        late.x.tick();
        late.x.tick();
        late.write(4, 2);
        late.x.tick();
        DUE.is("the age counts without a limit too", late.state(), 20 + 256 * 27);
    }

    private static void noWatch() {
        Line line = watched(0);
        for (int i = 0; i < 300; i++) {
            line.x.tick();
        }
        DUE.is("LIMIT 0", line.state(), 8);
        Line none = Line.inState(8, 0, 1);
        none.write(4, 1);
        none.x.tick();
        none.x.tick();
        none.x.tick();
        DUE.is("no outputs", none.state(), 8);
        Line safe = Line.inState(4, 1, 0);
        safe.write(4, 1);
        safe.x.tick();
        safe.x.tick();
        DUE.is("not RUN", safe.state(), 4);
    }
}
