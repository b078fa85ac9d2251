import java.util.ArrayList;
import java.util.List;

/**
 * "A call that is refused changes nothing.": one long run of calls, and the same run with one refused call more, at
 * each place of it. All other answers must be the same. Calls that only look at something are tried likewise.
 */
public final class RefusedTest {
    private static final Due DUE = new Due();
    private static final int[] EDGES = {Due.LEAST, -1, 3, 6, 7, 8, 24, 128, 65536, Due.GREATEST};

    private interface Call {
        long on(StationLine x);
    }

    private record Step(String name, Call call) {
    }

    private final List<Step> run = new ArrayList<>();
    private final List<Step> refused = new ArrayList<>();
    private final List<Step> looks = new ArrayList<>();

    public static void main(String[] args) {
        DUE.sentence("A call that is refused changes nothing.");
        RefusedTest test = new RefusedTest();
        test.fillRun();
        test.fillRefused();
        test.fillLooks();
        test.compareAll();
        DUE.end();
    }

    private static long of(boolean answer) {
        return answer ? 1 : 0;
    }

    private void step(String name, Call call) {
        run.add(new Step(name, call));
    }

    private void station(int outputs, int inputs) {
        step("station", x -> x.station(outputs, inputs));
    }

    private void tick() {
        step("tick", x -> {
            x.tick();
            return 0;
        });
    }

    private void request(int control) {
        step("request(" + control + ")", x -> x.request(control));
        tick();
        for (int s = 0; s < 2; s++) {
            int number = s;
            step("state(" + s + ")", x -> x.state(number));
        }
    }

    private void datagram(int command, int address, int offset, int length) {
        step("datagram", x -> x.datagram(command, address, offset, length));
    }

    private void data(int d, int i, int value) {
        step("data", x -> of(x.data(d, i, value)));
    }

    private void spoil(int k) {
        step("spoil(" + k + ")", x -> of(x.spoil(k)));
    }

    private void cut(int k, boolean broken) {
        step("cut(" + k + ", " + broken + ")", x -> of(x.cut(k, broken)));
    }

    private void returned(int datagrams, int bytes) {
        for (int place = 0; place < datagrams; place++) {
            for (int at = -2; at < bytes; at++) {
                int d = place;
                int i = at;
                step("returned(" + d + ", " + i + ")", x -> x.returned(d, i));
            }
        }
    }

    private void send(int datagrams, int bytes) {
        step("send()", x -> x.send());
        returned(datagrams, bytes);
    }

    private void cycle() {
        step("cycle()", x -> x.cycle());
        returned(2, 2);
        for (int at = 0; at < 10; at++) {
            int i = at;
            step("input(" + i + ")", x -> x.input(i));
        }
        step("actuator(0, 1)", x -> x.actuator(0, 1));
    }

    /** A run through everything that a call could spoil: frames that are ready, breaks, a watch, a message, an image. */
    private void fillRun() {
        station(2, 1);
        station(1, 2);
        datagram(7, 5, 2, 2);
        data(0, 1, 3);
        step("scan()", x -> x.scan());
        step("setup()", x -> x.setup());
        datagram(4, 1, 32, 1);
        datagram(2, 65535, 100, 2);
        data(2, 0, 77);
        send(3, 2);
        step("sense(0, 0, 9)", x -> of(x.sense(0, 0, 9)));
        step("sense(1, 1, 10)", x -> of(x.sense(1, 1, 10)));
        request(2);
        step("ask(1, 1, 1, 5)", x -> x.ask(1, 1, 1, 5));
        step("output(1, 44)", x -> of(x.output(1, 44)));
        request(4);
        step("answer(1)", x -> x.answer(1));
        returned(1, 3);
        cycle();
        datagram(8, 0, 4, 1);
        data(0, 0, 2);
        send(1, 1);
        request(8);
        spoil(1);
        step("output(0, 45)", x -> of(x.output(0, 45)));
        cycle();
        spoil(2);
        cut(1, true);
        step("request(8)", x -> x.request(8));
        cycle();
        cut(1, false);
        tick();
        request(24);
        cycle();
        request(24);
        cycle();
        for (int s = 2; s < 6; s++) {
            station(0, 0);
        }
        step("scan()", x -> x.scan());
        datagram(7, 0, 2, 1);
        step("setup()", x -> x.setup());
        cycle();
        send(1, 1);
        request(31);
        step("scan()", x -> x.scan());
    }

    private void refuse(String name, Call call) {
        refused.add(new Step(name, call));
    }

    private void fillRefused() {
        for (int n : EDGES) {
            refuse("station(" + n + ", 1)", x -> x.station(n, 1));
            refuse("station(1, " + n + ")", x -> x.station(1, n));
            refuse("sense(" + n + ", 0, 99)", x -> of(x.sense(n, 0, 99)));
            refuse("sense(0, " + n + ", 99)", x -> of(x.sense(0, n, 99)));
            refuse("cut(" + n + ", true)", x -> of(x.cut(n, true)));
            refuse("cut(" + n + ", false)", x -> of(x.cut(n, false)));
            refuse("spoil(" + n + ")", x -> of(x.spoil(n)));
            refuse("data(" + n + ", 0, 99)", x -> of(x.data(n, 0, 99)));
            refuse("data(0, " + n + ", 99)", x -> of(x.data(0, n, 99)));
            refuse("output(" + n + ", 99)", x -> of(x.output(n, 99)));
            refuse("datagram(" + n + ", 0, 0, 1)", x -> x.datagram(n, 0, 0, 1));
            refuse("datagram(5, " + n + ", 0, 1)", x -> x.datagram(5, n, 0, 1));
            refuse("datagram(5, 1, " + n + ", 1)", x -> x.datagram(5, 1, n, 1));
            refuse("datagram(5, 1, 0, " + n + ")", x -> x.datagram(5, 1, 0, n));
        }
        refuse("output(0, 99)", x -> of(x.output(0, 99)));
        refuse("station(0, 0)", x -> x.station(0, 0));
        refuse("datagram(8, 0, 100, 8)", x -> x.datagram(8, 0, 100, 8));
        refuse("send()", x -> x.send());
        refuse("cycle()", x -> x.cycle());
        refuse("data(0, 1, 99)", x -> of(x.data(0, 1, 99)));
        refuse("data(2, 0, 99)", x -> of(x.data(2, 0, 99)));
        refuse("sense(1, 2, 99)", x -> of(x.sense(1, 2, 99)));
        refuse("sense(0, 1, 99)", x -> of(x.sense(0, 1, 99)));
    }

    private void look(String name, Call call) {
        looks.add(new Step(name, call));
    }

    /** Calls that never change anything, and those of the master that send nothing as there is no such station. */
    private void fillLooks() {
        for (int n : EDGES) {
            look("returned(" + n + ", 0)", x -> x.returned(n, 0));
            look("returned(0, " + n + ")", x -> x.returned(0, n));
            look("actuator(" + n + ", 0)", x -> x.actuator(n, 0));
            look("actuator(0, " + n + ")", x -> x.actuator(0, n));
            look("state(" + n + ")", x -> x.state(n));
            look("input(" + n + ")", x -> x.input(n));
            if (n < 0 || n > 5) {
                look("ask(" + n + ", 1, 1, 99)", x -> x.ask(n, 1, 1, 99));
                look("answer(" + n + ")", x -> x.answer(n));
            }
        }
        look("returned(0, -2)", x -> x.returned(0, -2));
        look("actuator(0, 0)", x -> x.actuator(0, 0));
        look("state(0)", x -> x.state(0));
        look("input(0)", x -> x.input(0));
    }

    private long[] answers(int place, Call more) {
        StationLine x = new StationLine();
        long[] answers = new long[run.size()];
        for (int i = 0; i < answers.length; i++) {
            if (i == place) {
                more.on(x);
            }
            answers[i] = run.get(i).call().on(x);
        }
        return answers;
    }

    /** Whether the call is refused there: with these calls -1 and false say nothing else. */
    private boolean isRefused(int place, Step step) {
        StationLine x = new StationLine();
        for (int i = 0; i < place; i++) {
            run.get(i).call().on(x);
        }
        long answer = step.call().on(x);
        return answer == -1 || answer == 0 && step.name().matches("(sense|cut|spoil|data|output)\\(.*");
    }

    private void compareAll() {
        DUE.is("a run of at most 512 calls", run.size() < 512, true);
        long[] due = answers(-1, null);
        for (Step step : refused) {
            int places = 0;
            for (int place = 0; place < run.size(); place++) {
                if (isRefused(place, step)) {
                    places++;
                    compare(step, place, due);
                }
            }
            DUE.is(step.name() + " is refused somewhere", places > 0, true);
        }
        for (Step step : looks) {
            for (int place = 0; place < run.size(); place++) {
                compare(step, place, due);
            }
        }
    }

    private void compare(Step step, int place, long[] due) {
        long[] got = answers(place, step.call());
        for (int i = 0; i < due.length; i++) {
            if (got[i] != due[i]) {
                DUE.is(step.name() + " before call " + place + ": call " + i + ", " + run.get(i).name(), got[i], due[i]);
                return;
            }
        }
    }
}
