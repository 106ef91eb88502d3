import java.io.IOException;
import java.math.BigInteger;
import java.util.function.Supplier;
import java.util.function.ToLongFunction;

/**
 * Each sentence of the promises that names a boundary case, with a test of its own. No house is
 * used for more than 512 calls.
 */
public final class CallEdgesTest {
    private static final int LEAST = Integer.MIN_VALUE;
    private static final int MOST = Integer.MAX_VALUE;
    private static final int[] NO_CHANNELS = {-1, 120, LEAST, MOST};
    private static final int[] NO_PLACES = {-1, 16, LEAST, MOST};
    private static final int[] NO_PORTABLES = {-1, 2, 8, LEAST, MOST};
    private static final int[] NO_CELLS = {-1, 1, 4, LEAST, MOST};
    private static final Due due = new Due();

    private final Edges edges = new Edges(due);

    private CallEdgesTest() throws IOException {
    }

    public static void main(String[] args) throws IOException {
        CallEdgesTest test = new CallEdgesTest();
        test.whatItIs();
        test.refusals();
        test.newObject();
        test.cell();
        test.portable();
        test.reach();
        test.noise();
        test.go();
        test.enter();
        test.dial();
        test.answer();
        test.hang();
        test.say();
        test.frames();
        test.heard();
        test.portableOf();
        test.bearer();
        test.level();
        test.beacon();
        test.mix();
        test.air();
        test.count();
        due.end();
    }

    // ---- What it is ----

    private void whatItIs() {
        edges.section("What it is");
        edges.edge("CELLS have numbers from 0 on (4 at most)", CallEdgesTest::fourCells);
        edges.edge("PORTABLES from 0 on (8 at most)", CallEdgesTest::eightPortables);
        edges.edge("PLACES are 0 ..", CallEdgesTest::sixteenPlaces);
        edges.edge("An object is used for at most 512 calls after it has been made",
                CallEdgesTest::fiveHundredAndTwelveCalls);
    }

    private static void fourCells() {
        CordlessHouse x = new CordlessHouse();
        for (int c = 0; c < 4; c++) {
            due.is("cell " + c, x.cell(c), c);
        }
        due.is("one more", x.cell(4), -6);
        due.is("cells", x.count(1), 4);
    }

    private static void eightPortables() {
        CordlessHouse x = new CordlessHouse();
        for (int p = 0; p < 8; p++) {
            due.is("portable " + p, x.portable(0, p), p);
        }
        due.is("one more", x.portable(0, 8), -6);
        due.is("portables", x.count(2), 8);
    }

    private static void sixteenPlaces() {
        CordlessHouse x = new CordlessHouse();
        x.cell(0);
        x.portable(0, 1);
        for (int place = 0; place < 16; place++) {
            due.is("go(0, " + place + ")", x.go(0, place), Math.max(0, place - 1));
            due.is("reach(" + place + ", 1)", x.reach(place, 1), 0);
            due.is("beacon(0, " + place + ")", x.beacon(0, place), true);
            due.is("noise(" + place + ", 0)", x.noise(place, 0, true), true);
        }
        for (int place : new int[] {-1, 16}) {
            due.is("go(0, " + place + ")", x.go(0, place), -1);
            due.is("reach(" + place + ", 1)", x.reach(place, 1), -1);
            due.is("beacon(0, " + place + ")", x.beacon(0, place), false);
            due.is("portable(" + place + ", 1)", x.portable(place, 1), -1);
        }
    }

    private static void fiveHundredAndTwelveCalls() {
        CordlessHouse x = Houses.talking();
        int calls = 10;
        for (int i = 1; i <= 250; i++) {
            due.is("say, call " + (calls + 1), x.say(0, i), 1);
            due.is("frames, call " + (calls + 2), x.frames(1), i == 1 ? 0 : 1);
            calls += 2;
        }
        due.is("frames, call 511", x.frames(1), 1);
        due.is("heard, call 512", x.heard(1, 19), 250);
        x = new CordlessHouse();
        for (int i = 0; i < 511; i++) {
            x.cell(-1);
        }
        due.is("count(11), call 512", x.count(11), 511);
    }

    // ---- Refusals ----

    private void refusals() {
        edges.section("Terms");
        edges.edge("the first that fits in the order in which it tells them", this::orderOfRefusals);
        edges.edge("nothing changes but how many there were", this::refusedWhileBusy);
        edges.edge("-1 NOBODY: no such CELL, PORTABLE, PLACE, CHANNEL", CallEdgesTest::nobody);
        edges.edge("-2 STATE: a PORTABLE that is not as it must be", CallEdgesTest::state);
        edges.edge("-3 ENTERED: it is not", CallEdgesTest::notEntered);
        edges.edge("-4 BELOW, -6 ABOVE: a number that may not be; no room", CallEdgesTest::belowAbove);
    }

    private void orderOfRefusals() {
        edges.refuses("cell(120) though there are 4", Houses::fourCells, x -> x.cell(120), -1);
        edges.refuses("portable(16) though there are 8", () -> Houses.many(8),
                x -> x.portable(16, 0), -1);
        edges.refuses("reach(16, -1)", Houses::two, x -> x.reach(16, -1), -1);
        edges.refuses("reach(-1, 16)", Houses::two, x -> x.reach(-1, 16), -1);
        Supplier<CordlessHouse> house = CallEdgesTest::callingWithAStranger;
        edges.refuses("dial(0, 0), not idle", house, x -> x.dial(0, 0), -1);
        edges.refuses("dial(0, 3), not idle", house, x -> x.dial(0, 3), -1);
        edges.refuses("dial(0, 2), not idle, not entered", house, x -> x.dial(0, 2), -2);
        edges.refuses("dial(2, 2), not entered", house, x -> x.dial(2, 2), -1);
        edges.refuses("dial(2, 9), not entered", house, x -> x.dial(2, 9), -1);
    }

    /** Portable 0 is calling 1; portable 2 is not entered. */
    private static CordlessHouse callingWithAStranger() {
        CordlessHouse x = Houses.two();
        x.portable(0, 1);
        x.dial(0, 1);
        return x;
    }

    private void refusedWhileBusy() {
        Supplier<CordlessHouse> house = Houses::busy;
        edges.refuses("cell(120)", house, x -> x.cell(120), -1);
        edges.refuses("portable(16)", house, x -> x.portable(16, 1), -1);
        edges.refuses("reach(0, 16)", house, x -> x.reach(0, 16), -6);
        edges.refuses("reach(0, -1)", house, x -> x.reach(0, -1), -4);
        edges.refuses("go(1, 16)", house, x -> x.go(1, 16), -1);
        edges.refuses("enter(0)", house, x -> x.enter(0, 9), -2);
        edges.refuses("dial(0, 1)", house, x -> x.dial(0, 1), -2);
        edges.refuses("dial(1, 1)", house, x -> x.dial(1, 1), -1);
        edges.refuses("answer(1)", house, x -> x.answer(1), -2);
        edges.refuses("hang(2)", house, x -> x.hang(2), -1);
        edges.refuses("say(2)", house, x -> x.say(2, 1), -1);
        edges.refuses("frames(0)", house, x -> x.frames(0), -4);
        edges.refuses("frames(1001)", house, x -> x.frames(1001), -6);
        edges.refuses("level(0, 0, 120)", house, x -> x.level(0, 0, 120), -1);
    }

    private static void nobody() {
        CordlessHouse x = Houses.two();
        due.is("cell", x.level(0, 1, 0), -1);
        due.is("portable", x.level(2, 0, 0), -1);
        due.is("place", x.go(0, 16), -1);
        due.is("channel", x.level(0, 0, 120), -1);
        due.is("count(11)", x.count(11), 4);
    }

    private static void state() {
        CordlessHouse x = Houses.two();
        due.is("answer", x.answer(0), -2);
        due.is("hang", x.hang(0), -2);
        due.is("say", x.say(0, 1), -2);
        x.dial(0, 1);
        due.is("enter", x.enter(0, 1), -2);
        due.is("dial", x.dial(0, 1), -2);
        due.is("count(12)", x.count(12), 5);
    }

    private static void notEntered() {
        CordlessHouse x = Houses.two();
        x.portable(0, 1);
        due.is("dial(2, 0)", x.dial(2, 0), -3);
        due.is("count(13)", x.count(13), 1);
    }

    private static void belowAbove() {
        CordlessHouse x = Houses.talking();
        due.is("reach below", x.reach(0, -1), -4);
        due.is("frames below", x.frames(0), -4);
        due.is("count(14)", x.count(14), 2);
        due.is("reach above", x.reach(0, 16), -6);
        due.is("frames above", x.frames(1001), -6);
        for (int i = 0; i < 8; i++) {
            x.say(0, i);
        }
        due.is("no room", x.say(0, 8), -6);
        due.is("count(16)", x.count(16), 3);
    }

    // ---- Promises 1 to 4 ----

    private void newObject() {
        edges.section("Promise 1: A new object");
        edges.edge("No CELLS", this::noCells);
        edges.edge("no PORTABLES", this::noPortables);
    }

    private void noCells() {
        Supplier<CordlessHouse> house = CordlessHouse::new;
        due.is("cells", house.get().count(1), 0);
        edges.passes("beacon(0, 0)", house, x -> x.beacon(0, 0) ? 1 : 0, 0);
        edges.passes("noise(16, 0, true)", house, x -> x.noise(16, 0, true) ? 1 : 0, 0);
        edges.passes("bearer(0, 0)", house, x -> x.bearer(0, 0), -9);
        CordlessHouse x = new CordlessHouse();
        x.portable(0, 1);
        due.is("level(0, 0, 0)", x.level(0, 0, 0), -1);
    }

    private void noPortables() {
        Supplier<CordlessHouse> house = CordlessHouse::new;
        due.is("portables", house.get().count(2), 0);
        edges.refuses("go(0, 0)", house, x -> x.go(0, 0), -1);
        edges.refuses("enter(0, 0)", house, x -> x.enter(0, 0), -1);
        edges.refuses("dial(0, 1)", house, x -> x.dial(0, 1), -1);
        edges.refuses("answer(0)", house, x -> x.answer(0), -1);
        edges.refuses("hang(0)", house, x -> x.hang(0), -1);
        edges.refuses("say(0, 0)", house, x -> x.say(0, 0), -1);
        edges.passes("heard(0, 0)", house, x -> x.heard(0, 0), 0);
        edges.passes("portableOf(0, 0)", house, x -> x.portableOf(0, 0), -9);
        due.is("frames(1000)", house.get().frames(1000), 0);
        CordlessHouse x = new CordlessHouse();
        x.cell(0);
        due.is("level(0, 0, 0)", x.level(0, 0, 0), -1);
    }

    private void cell() {
        edges.section("Promise 2: cell");
        edges.edge("A CELL with its BEACON's CHANNEL: its number", CallEdgesTest::firstAndLastChannel);
        edges.edge("-1 no such CHANNEL", () -> {
            for (int channel : NO_CHANNELS) {
                edges.refuses("cell(" + channel + ")", Houses::two, x -> x.cell(channel), -1);
            }
        });
        edges.edge("-6 there are 4", () -> {
            CordlessHouse x = new CordlessHouse();
            x.cell(0);
            x.cell(0);
            x.cell(0);
            due.is("the fourth", x.cell(0), 3);
            edges.refuses("the fifth", Houses::fourCells, y -> y.cell(0), -6);
        });
    }

    private static void firstAndLastChannel() {
        CordlessHouse x = new CordlessHouse();
        due.is("cell(0)", x.cell(0), 0);
        due.is("cell(119)", x.cell(119), 1);
        x.reach(0, 3);
        x.noise(0, 119, true);
        due.is("beacon(0, 0)", x.beacon(0, 0), true);
        due.is("beacon(1, 0), noise on 119", x.beacon(1, 0), false);
        x.noise(0, 119, false);
        x.noise(0, 0, true);
        due.is("beacon(0, 0), noise on 0", x.beacon(0, 0), false);
        due.is("beacon(1, 0)", x.beacon(1, 0), true);
    }

    private void portable() {
        edges.section("Promise 3: portable");
        edges.edge("A PORTABLE at a PLACE, with its KEY, IDLE: its number", CallEdgesTest::portablesMade);
        edges.edge("-1", () -> {
            for (int place : NO_PLACES) {
                edges.refuses("portable(" + place + ")", Houses::two, x -> x.portable(place, 1), -1);
            }
        });
        edges.edge("-6 there are 8", () -> {
            due.is("the eighth", Houses.many(7).portable(0, 1), 7);
            edges.refuses("the ninth", () -> Houses.many(8), x -> x.portable(0, 1), -6);
        });
    }

    /** The least and the most of KEYS are keys like others: they are proven. */
    private static void portablesMade() {
        long[] keys = {Long.MIN_VALUE, Long.MAX_VALUE, 0, -1};
        CordlessHouse x = new CordlessHouse();
        x.cell(0);
        x.reach(0, 1);
        x.reach(15, 1);
        for (int p = 0; p < 4; p++) {
            due.is("portable " + p, x.portable(p % 2 * 15, keys[p]), p);
            due.is("its place", x.portableOf(p, 1), p % 2 * 15);
            due.is("how it is", x.portableOf(p, 0), 0);
            due.is("is it entered", x.portableOf(p, 8), 0);
            x.enter(p, keys[p]);
        }
        x.dial(0, 1);
        x.dial(2, 3);
        x.frames(12);
        due.is("1 is ringing", x.portableOf(1, 0), 6);
        due.is("3 is ringing", x.portableOf(3, 0), 6);
    }

    private void reach() {
        edges.section("Promise 4: reach");
        edges.edge("as bits (also of CELLS that come later)", CallEdgesTest::bitsOfLaterCells);
        edges.edge("what it was", () -> {
            CordlessHouse x = new CordlessHouse();
            due.is("none at first", x.reach(15, 15), 0);
            due.is("all", x.reach(15, 0), 15);
            due.is("none", x.reach(15, 9), 0);
            due.is("the same once more", x.reach(15, 9), 9);
            due.is("another place", x.reach(14, 9), 0);
        });
        edges.edge("-1", () -> {
            for (int place : NO_PLACES) {
                edges.refuses("reach(" + place + ", 1)", Houses::two, x -> x.reach(place, 1), -1);
            }
        });
        edges.edge("-4 below 0", () -> {
            due.is("0", Houses.two().reach(0, 0), 1);
            edges.refuses("-1", Houses::two, x -> x.reach(0, -1), -4);
            edges.refuses("least", Houses::two, x -> x.reach(0, LEAST), -4);
        });
        edges.edge("-6 above 15", () -> {
            due.is("15", Houses.two().reach(0, 15), 1);
            edges.refuses("16", Houses::two, x -> x.reach(0, 16), -6);
            edges.refuses("most", Houses::two, x -> x.reach(0, MOST), -6);
        });
    }

    private static void bitsOfLaterCells() {
        for (int bits = 0; bits <= 15; bits++) {
            CordlessHouse x = new CordlessHouse();
            x.reach(0, bits);
            for (int c = 0; c < 4; c++) {
                x.cell(c);
                due.is("cell " + c + " of " + bits, x.beacon(c, 0), (bits & 1 << c) != 0);
            }
        }
    }

    // ---- Promises 5 to 8 ----

    private void noise() {
        edges.section("Promise 5: noise");
        edges.edge("at a PLACE (0 .. 15)", CallEdgesTest::noiseAtPlaces);
        edges.edge("or a CELL (16 and its number)", CallEdgesTest::noiseAtCells);
        edges.edge("or none any more: true", () -> {
            CordlessHouse x = Houses.two();
            x.noise(0, 119, true);
            x.noise(16, 119, true);
            due.is("off at the place", x.noise(0, 119, false), true);
            due.is("level", x.level(0, 0, 119), 4);
            due.is("off at the cell", x.noise(16, 119, false), true);
            due.is("level", x.level(0, 0, 119), 0);
        });
        edges.edge("false if it was so", this::noiseAsItWas);
        edges.edge("or there is none such", this::noiseNowhere);
    }

    private static void noiseAtPlaces() {
        CordlessHouse x = Houses.two();
        for (int place = 0; place < 16; place++) {
            due.is("on at " + place, x.noise(place, 5, true), true);
            x.go(0, place);
            due.is("level there", x.level(0, 0, 5), 4);
            x.go(0, (place + 1) % 16);
            due.is("level at the next", x.level(0, 0, 5), place == 15 ? 4 : 0);
        }
    }

    private static void noiseAtCells() {
        CordlessHouse x = Houses.fourCells();
        x.portable(0, 1);
        for (int c = 0; c < 4; c++) {
            due.is("on at cell " + c, x.noise(16 + c, 5, true), true);
            for (int other = 0; other < 4; other++) {
                due.is("level for cell " + other, x.level(0, other, 5), other <= c ? 4 : 0);
            }
        }
    }

    private void noiseAsItWas() {
        edges.passes("off where none was", Houses::two, x -> x.noise(0, 0, false) ? 1 : 0, 0);
        edges.passes("off at a cell", Houses::two, x -> x.noise(16, 0, false) ? 1 : 0, 0);
        Supplier<CordlessHouse> noisy = () -> {
            CordlessHouse x = Houses.two();
            x.noise(0, 0, true);
            x.noise(16, 119, true);
            return x;
        };
        edges.passes("on where it was", noisy, x -> x.noise(0, 0, true) ? 1 : 0, 0);
        edges.passes("on at a cell", noisy, x -> x.noise(16, 119, true) ? 1 : 0, 0);
    }

    private void noiseNowhere() {
        for (int where : new int[] {-1, LEAST, 17, 20, 32, 48, MOST}) {
            edges.passes("at " + where, Houses::two, x -> x.noise(where, 0, true) ? 1 : 0, 0);
        }
        edges.passes("at 20 though there are 4", Houses::fourCells,
                x -> x.noise(20, 0, true) ? 1 : 0, 0);
        for (int channel : NO_CHANNELS) {
            edges.passes("on " + channel, Houses::two, x -> x.noise(0, channel, true) ? 1 : 0, 0);
            edges.passes("on " + channel, Houses::two, x -> x.noise(16, channel, true) ? 1 : 0, 0);
        }
        CordlessHouse x = Houses.two();
        x.noise(17, 5, true);
        x.cell(0);
        due.is("a cell that comes later has none", x.level(0, 1, 5), 0);
    }

    private void go() {
        edges.section("Promise 6: go");
        edges.edge("A PORTABLE goes to a PLACE: where it was", () -> {
            CordlessHouse x = Houses.two();
            due.is("to 15", x.go(0, 15), 0);
            due.is("to 15 again", x.go(0, 15), 15);
            due.is("to 0", x.go(0, 0), 15);
            due.is("the other one stays", x.portableOf(1, 1), 1);
        });
        edges.edge("-1", () -> {
            for (int p : NO_PORTABLES) {
                edges.refuses("go(" + p + ", 0)", Houses::two, x -> x.go(p, 0), -1);
            }
            for (int place : NO_PLACES) {
                edges.refuses("go(1, " + place + ")", Houses::two, x -> x.go(1, place), -1);
            }
        });
    }

    private void enter() {
        edges.section("Promise 7: enter");
        edges.edge("The exchange has a KEY for a PORTABLE: 1 (it is ENTERED)", CallEdgesTest::entered);
        nobodyFor("enter", -1, (x, p) -> x.enter(p, 1));
        edges.edge("-2 it is not IDLE", () -> {
            due.is("idle", Houses.inState(0).enter(0, 77), 1);
            for (int state = 1; state <= 7; state++) {
                refusedIn(state, (x, p) -> x.enter(p, 1), -2);
            }
        });
    }

    private static void entered() {
        CordlessHouse x = new CordlessHouse();
        x.cell(0);
        x.reach(0, 1);
        x.portable(0, 5);
        x.portable(0, 6);
        x.enter(1, 6);
        due.is("before", x.portableOf(0, 8), 0);
        due.is("a wrong key", x.enter(0, 4), 1);
        due.is("after", x.portableOf(0, 8), 1);
        x.dial(0, 1);
        x.frames(5);
        due.is("not proven", x.portableOf(0, 0), 0);
        due.is("the right one instead", x.enter(0, 5), 1);
        x.dial(0, 1);
        x.frames(4);
        due.is("proven at TIME 9", x.portableOf(0, 0), 3);
    }

    private interface OfPortable {
        long ask(CordlessHouse x, int p);
    }

    private void nobodyFor(String name, int number, OfPortable call) {
        edges.edge("" + number, () -> {
            for (int p : NO_PORTABLES) {
                edges.refuses(name + "(" + p + ")", Houses::two, x -> call.ask(x, p), number);
            }
        });
    }

    private void refusedIn(int state, OfPortable call, int number) {
        int p = Houses.whoIs(state);
        due.is("how it is", Houses.inState(state).portableOf(p, 0), state);
        ToLongFunction<CordlessHouse> asked = x -> call.ask(x, p);
        edges.refuses("as it is " + state, () -> Houses.inState(state), asked, number);
    }

    private void dial() {
        edges.section("Promise 8: dial");
        edges.edge("A PORTABLE calls another one: it is CALLING: 1", CallEdgesTest::dialled);
        edges.edge("-1 (also itself)", () -> {
            edges.refuses("dial(0, 0)", Houses::two, x -> x.dial(0, 0), -1);
            edges.refuses("dial(1, 1)", Houses::two, x -> x.dial(1, 1), -1);
            for (int p : NO_PORTABLES) {
                edges.refuses("dial(" + p + ", 0)", Houses::two, x -> x.dial(p, 0), -1);
                edges.refuses("dial(0, " + p + ")", Houses::two, x -> x.dial(0, p), -1);
                edges.refuses("dial(" + p + ", itself)", Houses::two, x -> x.dial(p, p), -1);
            }
        });
        edges.edge("-2 it is not IDLE", () -> {
            for (int state = 1; state <= 7; state++) {
                refusedIn(state, (x, p) -> x.dial(p, 1 - p), -2);
            }
        });
        edges.edge("-3 it, or the other one", () -> {
            edges.refuses("neither", () -> entered(false, false), x -> x.dial(0, 1), -3);
            edges.refuses("the other one", () -> entered(true, false), x -> x.dial(0, 1), -3);
            edges.refuses("it", () -> entered(false, true), x -> x.dial(0, 1), -3);
            due.is("both are", entered(true, true).dial(0, 1), 1);
        });
    }

    private static CordlessHouse entered(boolean first, boolean second) {
        CordlessHouse x = new CordlessHouse();
        x.portable(0, 1);
        x.portable(0, 2);
        if (first) {
            x.enter(0, 1);
        }
        if (second) {
            x.enter(1, 2);
        }
        return x;
    }

    /** However the other one is: that it must be idle is looked at as its caller is proven. */
    private static void dialled() {
        for (int state = 0; state <= 7; state++) {
            CordlessHouse x = Houses.inState(state);
            int other = Houses.whoIs(state);
            x.portable(0, 3);
            x.enter(2, 3);
            due.is("dial one that is " + state, x.dial(2, other), 1);
            due.is("how it is", x.portableOf(2, 0), 1);
            due.is("its partner", x.portableOf(2, 2), other);
            due.is("how the other one is", x.portableOf(other, 0), state);
            due.is("since how many frames", x.portableOf(2, 9), 0);
        }
    }

    // ---- Promises 9 to 12 ----

    private void answer() {
        edges.section("Promise 9: answer");
        edges.edge("A PORTABLE that is RINGING answers: it, and its PARTNER, are ACTIVE: 1", () -> {
            CordlessHouse x = Houses.inState(6);
            due.is("answer(1)", x.answer(1), 1);
            due.is("how it is", x.portableOf(1, 0), 7);
            due.is("how its partner is", x.portableOf(0, 0), 7);
            due.is("its partner", x.portableOf(1, 2), 0);
            due.is("calls that became active", x.count(5), 1);
            due.is("it does not ring any more", x.answer(1), -2);
        });
        nobodyFor("answer", -1, CordlessHouse::answer);
        edges.edge("-2", () -> {
            for (int state = 0; state <= 7; state++) {
                if (state != 6) {
                    refusedIn(state, CordlessHouse::answer, -2);
                }
            }
        });
    }

    private void hang() {
        edges.section("Promise 10: hang");
        edges.edge("A PORTABLE's call ENDS: 1", () -> {
            for (int state = 1; state <= 7; state++) {
                CordlessHouse x = Houses.inState(state);
                due.is("as it is " + state, x.hang(Houses.whoIs(state)), 1);
                due.is("how 0 is", x.portableOf(0, 0), 0);
                due.is("how 1 is", x.portableOf(1, 0), 0);
                due.is("bearers", x.count(3), 0);
                due.is("calls that ended", x.count(6), 1);
            }
        });
        nobodyFor("hang", -1, CordlessHouse::hang);
        edges.edge("-2 it is IDLE", () -> refusedIn(0, CordlessHouse::hang, -2));
    }

    private void say() {
        edges.section("Promise 11: say");
        edges.edge("A block that a PORTABLE SAYS, behind others: how many wait", CallEdgesTest::said);
        nobodyFor("say", -1, (x, p) -> x.say(p, 1));
        edges.edge("-2 it is not ACTIVE", () -> {
            for (int state = 0; state <= 6; state++) {
                refusedIn(state, (x, p) -> x.say(p, 1), -2);
            }
        });
        edges.edge("-6 8 wait", () -> {
            due.is("the eighth", sayMany(7).say(0, 8), 8);
            edges.refuses("the ninth", () -> sayMany(8), x -> x.say(0, 9), -6);
            CordlessHouse x = sayMany(8);
            x.frames(1);
            due.is("one more as one went up", x.say(0, 9), 8);
            due.is("and one more", x.say(0, 10), -6);
        });
    }

    private static CordlessHouse sayMany(int n) {
        CordlessHouse x = Houses.talking();
        for (int i = 1; i <= n; i++) {
            x.say(0, i);
        }
        return x;
    }

    private static void said() {
        long[] blocks = {Long.MIN_VALUE, Long.MAX_VALUE, 0, -1, 5, 5, 1, 2};
        CordlessHouse x = Houses.talking();
        for (int i = 0; i < 8; i++) {
            due.is("block " + i, x.say(0, blocks[i]), i + 1);
        }
        due.is("all are heard", x.frames(9), 8);
        for (int i = 0; i < 8; i++) {
            due.is("heard(1, " + i + ")", x.heard(1, i), blocks[i]);
        }
    }

    private void frames() {
        edges.section("Promise 12: frames");
        edges.edge("n FRAMES: how many blocks were HEARD in them", () -> {
            CordlessHouse x = sayMany(3);
            x.say(1, 7);
            due.is("in the first", x.frames(1), 0);
            due.is("in the second, both ways", x.frames(1), 2);
            due.is("in 1000 more", x.frames(1000), 2);
            due.is("in 1000 more", x.frames(1000), 0);
            due.is("TIME", x.count(0), 2012);
        });
        edges.edge("-4 below 1", () -> {
            due.is("1", Houses.busy().frames(1), 2);
            for (int n : new int[] {0, -1, LEAST}) {
                edges.refuses("" + n, Houses::busy, x -> x.frames(n), -4);
            }
        });
        edges.edge("-6 above 1000", () -> {
            CordlessHouse x = new CordlessHouse();
            due.is("1000", x.frames(1000), 0);
            due.is("TIME", x.count(0), 1000);
            for (int n : new int[] {1001, MOST}) {
                edges.refuses("" + n, Houses::busy, y -> y.frames(n), -6);
            }
        });
        edges.edge("or TIME would be above 100000", this::lastTime);
    }

    private void lastTime() {
        due.is("1000 up to 100000", atTime(99000).frames(1000), 0);
        edges.refuses("1000 at 99001", () -> atTime(99001), x -> x.frames(1000), -6);
        edges.refuses("2 at 99999", () -> atTime(99999), x -> x.frames(2), -6);
        CordlessHouse x = atTime(99999);
        due.is("1 at 99999", x.frames(1), 0);
        due.is("TIME", x.count(0), 100000);
        edges.refuses("1 at 100000", () -> atTime(100000), y -> y.frames(1), -6);
        edges.refuses("0 at 100000", () -> atTime(100000), y -> y.frames(0), -4);
    }

    private static CordlessHouse atTime(int time) {
        CordlessHouse x = new CordlessHouse();
        for (int left = time; left > 0; left -= 1000) {
            x.frames(Math.min(left, 1000));
        }
        return x;
    }

    // ---- Promises 13 to 16 ----

    private void heard() {
        edges.section("Promise 13: heard");
        edges.edge("(20 at most are kept, the eldest first)", CallEdgesTest::twentyAreKept);
        edges.edge("0 if there is none", () -> {
            Supplier<CordlessHouse> house = () -> hearMany(2);
            for (int i : new int[] {-1, 2, 19, 20, LEAST, MOST}) {
                edges.passes("heard(1, " + i + ")", house, x -> x.heard(1, i), 0);
            }
            for (int p : NO_PORTABLES) {
                edges.passes("heard(" + p + ", 0)", house, x -> x.heard(p, 0), 0);
            }
            due.is("nothing came to 0", house.get().heard(0, 0), 0);
        });
    }

    /** Portable 1 has heard the blocks 1 to n. */
    private static CordlessHouse hearMany(int n) {
        CordlessHouse x = Houses.talking();
        for (int i = 1; i <= n; i++) {
            x.say(0, i);
            x.frames(1);
        }
        x.frames(1);
        return x;
    }

    private static void twentyAreKept() {
        for (int n : new int[] {1, 19, 20, 21, 45}) {
            CordlessHouse x = hearMany(n);
            int kept = Math.min(n, 20);
            for (int i = 0; i < 20; i++) {
                due.is(n + " heard: " + i, x.heard(1, i), i < kept ? n - kept + 1 + i : 0);
            }
            due.is(n + " heard: 20", x.heard(1, 20), 0);
            x.hang(0);
            due.is("still kept after the call", x.heard(1, kept - 1), n);
        }
    }

    private void portableOf() {
        edges.section("Promise 14: portableOf");
        edges.edge("2 its PARTNER (-9)", () -> {
            for (int state = 0; state <= 7; state++) {
                int p = Houses.whoIs(state);
                int partner = state == 0 ? -9 : 1 - p;
                due.is("as it is " + state, Houses.inState(state).portableOf(p, 2), partner);
            }
            CordlessHouse x = Houses.talking();
            x.hang(1);
            due.is("after the call", x.portableOf(0, 2), -9);
            due.is("after the call", x.portableOf(1, 2), -9);
        });
        edges.edge("3 how many BEARERS", () -> {
            due.is("calling", Houses.inState(1).portableOf(0, 3), 0);
            due.is("proving", Houses.inState(2).portableOf(0, 3), 1);
            due.is("handed over", FrameEdgesTest.badSecond().portableOf(0, 3), 2);
        });
        edges.edge("4 1 if it hands over (0)", CallEdgesTest::toldAsItHandsOver);
        edges.edge("5 blocks that wait to go up", () -> {
            for (int n = 0; n <= 8; n++) {
                due.is("" + n, sayMany(n).portableOf(0, 5), n);
            }
        });
        edges.edge("6 blocks that wait for it", CallEdgesTest::waitForIt);
        edges.edge("7 blocks that it HEARD in all", () -> {
            for (int n : new int[] {0, 1, 20, 21, 45}) {
                due.is("" + n, hearMany(n).portableOf(1, 7), n);
            }
            CordlessHouse x = hearMany(3);
            x.hang(0);
            due.is("after the call", x.portableOf(1, 7), 3);
        });
        edges.edge("8 1 if it is ENTERED", () -> {
            CordlessHouse x = entered(true, false);
            due.is("it is", x.portableOf(0, 8), 1);
            due.is("it is not", x.portableOf(1, 8), 0);
        });
        edges.edge("(0 if IDLE or ACTIVE)", CallEdgesTest::sinceHowManyFrames);
        edges.edge("-9: no such PORTABLE, what", this::noSuchPortableOrWhat);
    }

    private static void toldAsItHandsOver() {
        CordlessHouse x = Houses.talking();
        x.go(0, 9);
        x.frames(2);
        due.is("2 fails", x.portableOf(0, 4), 0);
        x.frames(1);
        due.is("3 fails", x.portableOf(0, 4), 1);
        due.is("the other one", x.portableOf(1, 4), 0);
        x.hang(0);
        due.is("without a bearer", x.portableOf(0, 4), 0);
    }

    /** As 1 hears none of them, at most 7 frames on end. */
    private static void waitForIt() {
        CordlessHouse x = sayMany(8);
        x.noise(1, 20, true);
        x.noise(1, 0, true);
        for (int i = 0; i <= 7; i++) {
            due.is("for 1", x.portableOf(1, 6), i);
            due.is("for 0, that says them", x.portableOf(0, 6), 0);
            if (i < 7) {
                x.frames(1);
            }
        }
        x.hang(0);
        due.is("after the call", x.portableOf(1, 6), 0);
    }

    private static void sinceHowManyFrames() {
        int[] frames = {0, 0, 4, 5, 0, 4, 5, 0};
        for (int state = 0; state <= 7; state++) {
            CordlessHouse x = Houses.inState(state);
            int p = Houses.whoIs(state);
            due.is("as it is " + state, x.portableOf(p, 9), frames[state]);
        }
        CordlessHouse x = Houses.inState(6);
        due.is("of its caller", x.portableOf(0, 9), 10);
        x.hang(0);
        due.is("idle again", x.portableOf(0, 9), 0);
        x.dial(0, 1);
        due.is("a new call", x.portableOf(0, 9), 0);
        x.frames(1);
        due.is("a frame later", x.portableOf(0, 9), 1);
    }

    private void noSuchPortableOrWhat() {
        for (int p : NO_PORTABLES) {
            for (int what = 0; what <= 9; what++) {
                due.is("(" + p + ", " + what + ")", Houses.busy().portableOf(p, what), -9);
            }
            edges.passes("(" + p + ", 0)", Houses::busy, x -> x.portableOf(p, 0), -9);
        }
        for (int what : new int[] {-1, 10, LEAST, MOST}) {
            edges.passes("(0, " + what + ")", Houses::busy, x -> x.portableOf(0, what), -9);
        }
        due.is("(7, 8) of eight", Houses.many(8).portableOf(7, 8), 1);
        due.is("(8, 8) of eight", Houses.many(8).portableOf(8, 8), -9);
    }

    private void bearer() {
        edges.section("Promise 15: bearer");
        edges.edge("4 1 if it was GOOD in the latest FRAME (0 if it is newer)", () -> {
            CordlessHouse x = Houses.talking();
            due.is("good", x.bearer(0, 4), 1);
            x.noise(0, 10, true);
            due.is("good in the latest frame, though not now", x.bearer(0, 4), 1);
            x.frames(1);
            due.is("not good", x.bearer(0, 4), 0);
            x.noise(0, 10, false);
            due.is("not good in the latest frame, though now", x.bearer(0, 4), 0);
            x.frames(1);
            due.is("good", x.bearer(0, 4), 1);
        });
        edges.edge("-9: no such BEARER, what", this::noSuchBearerOrWhat);
    }

    private void noSuchBearerOrWhat() {
        for (int i : new int[] {-1, 2, 15, 16, LEAST, MOST}) {
            for (int what = 0; what <= 4; what++) {
                due.is("(" + i + ", " + what + ")", Houses.busy().bearer(i, what), -9);
            }
            edges.passes("(" + i + ", 0)", Houses::busy, x -> x.bearer(i, 0), -9);
        }
        for (int what : new int[] {-1, 5, LEAST, MOST}) {
            edges.passes("(0, " + what + ")", Houses::busy, x -> x.bearer(0, what), -9);
        }
        CordlessHouse x = Houses.busy();
        x.hang(0);
        due.is("after the call", x.bearer(0, 0), -9);
    }

    private void level() {
        edges.section("Promise 16: level");
        edges.edge("-1", () -> {
            for (int p : NO_PORTABLES) {
                edges.refuses("portable " + p, Houses::busy, x -> x.level(p, 0, 0), -1);
            }
            for (int c : NO_CELLS) {
                edges.refuses("cell " + c, Houses::busy, x -> x.level(0, c, 0), -1);
            }
            for (int channel : NO_CHANNELS) {
                edges.refuses("channel " + channel, Houses::busy, x -> x.level(0, 0, channel), -1);
            }
            edges.passes("the last channel", Houses::busy, x -> x.level(1, 0, 119), 0);
        });
    }

    // ---- Promises 17 to 20 ----

    private void beacon() {
        edges.section("Promise 17: beacon");
        edges.edge("Whether a CELL's BEACON is HEARD at a PLACE", () -> {
            edges.passes("reached", Houses::two, x -> x.beacon(0, 1) ? 1 : 0, 1);
            edges.passes("not reached", Houses::two, x -> x.beacon(0, 15) ? 1 : 0, 0);
        });
        edges.edge("(false if there is none such)", () -> {
            for (int c : NO_CELLS) {
                edges.passes("cell " + c, Houses::two, x -> x.beacon(c, 0) ? 1 : 0, 0);
            }
            for (int place : NO_PLACES) {
                edges.passes("place " + place, Houses::two, x -> x.beacon(0, place) ? 1 : 0, 0);
            }
        });
    }

    private void mix() {
        edges.section("Promise 18: mix");
        edges.edge("MIX of a number and another one", () -> {
            long[] numbers = {0, 1, -1, 77, 1L << 29, (1L << 29) - 1, 1L << 62, Long.MAX_VALUE,
                Long.MIN_VALUE, Long.MIN_VALUE + 1, 1000000, 0x123456789abcdefL};
            CordlessHouse x = new CordlessHouse();
            for (long key : numbers) {
                for (long n : numbers) {
                    due.is("mix(" + key + ", " + n + ")", x.mix(key, n), plainMix(key, n));
                }
            }
        });
    }

    /** MIX with numbers that do not go round by themselves. */
    static long plainMix(long key, long n) {
        BigInteger round = BigInteger.ONE.shiftLeft(64);
        BigInteger x = BigInteger.valueOf(n).multiply(BigInteger.valueOf(7046029254386353131L)).mod(round);
        x = x.xor(BigInteger.valueOf(key).mod(round));
        for (int i = 0; i < 2; i++) {
            x = x.xor(x.shiftRight(29));
            x = x.multiply(BigInteger.valueOf(-4658895280553007687L)).mod(round);
        }
        return x.longValue();
    }

    private void air() {
        edges.section("Promise 19: air");
        edges.edge("The latest block on air, up (what 0) or down (1), as it was ciphered", () -> {
            CordlessHouse x = Houses.talking();
            x.say(0, 5);
            x.frames(1);
            due.is("up at TIME 11", x.air(0), 5 ^ plainMix(Houses.KEY0, 11));
            due.is("down at TIME 11", x.air(1), 0);
            x.frames(1);
            due.is("up", x.air(0), 5 ^ plainMix(Houses.KEY0, 11));
            due.is("down at TIME 12", x.air(1), 5 ^ plainMix(Houses.KEY1, 1000012));
            x.hang(0);
            due.is("up, after the call", x.air(0), 5 ^ plainMix(Houses.KEY0, 11));
            due.is("down, after the call", x.air(1), 5 ^ plainMix(Houses.KEY1, 1000012));
        });
        edges.edge("0 if there was none, or for another what", () -> {
            edges.passes("up", Houses::talking, x -> x.air(0), 0);
            edges.passes("down", Houses::talking, x -> x.air(1), 0);
            for (int what : new int[] {-1, 2, LEAST, MOST}) {
                edges.passes("air(" + what + ")", Houses::busy, x -> x.air(what), 0);
            }
        });
    }

    private void count() {
        edges.section("Promise 20: count");
        edges.edge("4 BEARERS ever made", () -> {
            CordlessHouse x = Houses.talking();
            x.hang(0);
            due.is("bearers", x.count(3), 0);
            due.is("ever made", x.count(4), 2);
        });
        edges.edge("5 calls that became ACTIVE, 6 calls that ENDED", () -> {
            for (int state = 0; state <= 7; state++) {
                CordlessHouse x = Houses.inState(state);
                due.is("active as one is " + state, x.count(5), state == 7 ? 1 : 0);
                due.is("ended", x.count(6), 0);
                x.hang(0);
                due.is("ended after hang", x.count(6), state == 0 ? 0 : 1);
                due.is("active after hang", x.count(5), state == 7 ? 1 : 0);
            }
        });
        edges.edge("7 handovers done (a first BEARER that went for a second one)",
                CallEdgesTest::handoversDone);
        edges.edge("8 blocks that went up", () -> {
            CordlessHouse x = sayMany(2);
            due.is("said", x.count(8), 0);
            x.frames(1);
            due.is("one went up", x.count(8), 1);
            x.hang(1);
            due.is("one was no more", x.count(8), 1);
        });
        edges.edge("11 .. 16 REFUSALS -1 .. -6", CallEdgesTest::refusalsCounted);
        edges.edge("-9 for another what", () -> {
            for (int what : new int[] {-1, 9, 10, 17, LEAST, MOST}) {
                edges.passes("count(" + what + ")", Houses::busy, x -> x.count(what), -9);
            }
            for (int what = 0; what <= 16; what++) {
                due.is("is count(" + what + ") told", new CordlessHouse().count(what),
                        what == 9 || what == 10 ? -9 : 0);
            }
        });
    }

    private static void handoversDone() {
        CordlessHouse x = FrameEdgesTest.badSecond();
        due.is("two bearers", x.count(7), 0);
        x.frames(2);
        due.is("the first one had 8 fails", x.portableOf(0, 3), 1);
        due.is("that is none", x.count(7), 0);
        x = FrameEdgesTest.badSecond();
        x.noise(0, 10, false);
        x.frames(7);
        due.is("the second one had 8 fails", x.portableOf(0, 3), 1);
        due.is("that is none", x.count(7), 0);
        x = FrameEdgesTest.badSecond();
        x.hang(0);
        due.is("nor that both are no more", x.count(7), 0);
        x = FrameEdgesTest.badSecond();
        x.reach(0, 1);
        x.frames(1);
        due.is("the second one is good", x.count(7), 1);
    }

    private static void refusalsCounted() {
        CordlessHouse x = Houses.two();
        x.portable(0, 1);
        for (int i = 0; i < 5; i++) {
            x.cell(-1);
        }
        for (int i = 0; i < 4; i++) {
            x.answer(0);
        }
        for (int i = 0; i < 3; i++) {
            x.dial(0, 2);
        }
        x.frames(0);
        x.frames(0);
        x.frames(1001);
        int[] want = {5, 4, 3, 2, 0, 1};
        for (int i = 0; i < 6; i++) {
            due.is("count(" + (11 + i) + ")", x.count(11 + i), want[i]);
        }
    }
}
