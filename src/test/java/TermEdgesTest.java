import java.io.IOException;

/**
 * Each sentence of the document's Terms (but those of a frame's steps) that names a boundary case,
 * with a test of its own. No house is used for more than 512 calls.
 */
public final class TermEdgesTest {
    private static final Due due = new Due();

    private final Edges edges = new Edges(due);

    private TermEdgesTest() throws IOException {
    }

    public static void main(String[] args) throws IOException {
        TermEdgesTest test = new TermEdgesTest();
        test.edges.section("Terms");
        test.channels();
        test.bearers();
        test.heardAtAPortable();
        test.heardAtACell();
        test.level();
        test.keys();
        test.states();
        test.endOfACall();
        due.end();
    }

    // ---- Places, channels ----

    private void channels() {
        edges.edge("Each PLACE is REACHED by some CELLS (none at first)", () -> {
            CordlessHouse x = Houses.fourCells();
            for (int place = 0; place < 16; place++) {
                for (int c = 0; c < 4; c++) {
                    due.is("beacon " + c + " at " + place, x.beacon(c, place), false);
                }
                due.is("reach(" + place + ", 15)", x.reach(place, 15), 0);
            }
        });
        edges.edge("A CHANNEL is 10 times a SLOT (0 .. 11) and a CARRIER (0 .. 9): 0 .. 119",
                TermEdgesTest::slots);
        edges.edge("NOISE is, or is not, on a CHANNEL at a PLACE, or at a CELL", () -> {
            CordlessHouse x = Houses.two();
            x.noise(0, 50, true);
            due.is("at 0", x.level(0, 0, 50), 4);
            due.is("at 1", x.level(1, 0, 50), 0);
            due.is("on the channel below", x.level(0, 0, 49), 0);
            due.is("on the channel above", x.level(0, 0, 51), 0);
            x.noise(16, 50, true);
            due.is("at 0 and the cell", x.level(0, 0, 50), 8);
            due.is("at 1 and the cell", x.level(1, 0, 50), 4);
        });
    }

    /** A bearer is never in its cell's beacon's slot, which shows where slots begin and end. */
    private static void slots() {
        int[] beacons = {0, 9, 10, 19, 50, 119};
        int[] least = {10, 10, 0, 0, 0, 0};
        for (int i = 0; i < beacons.length; i++) {
            CordlessHouse x = oneCell(beacons[i]);
            x.dial(0, 1);
            x.frames(4);
            due.is("beacon on " + beacons[i], x.bearer(0, 2), least[i]);
        }
        due.is("beacon on 109, noise below 110", channelAboveNoise(109), 110);
        due.is("beacon on 110, noise below 110", channelAboveNoise(110), -9);
        due.is("beacon on 119, noise below 110", channelAboveNoise(119), -9);
        due.is("cell(120)", new CordlessHouse().cell(120), -1);
    }

    private static CordlessHouse oneCell(int beacon) {
        CordlessHouse x = new CordlessHouse();
        x.cell(beacon);
        x.reach(0, 1);
        x.portable(0, 5);
        x.portable(0, 5);
        x.enter(0, 5);
        x.enter(1, 5);
        return x;
    }

    private static int channelAboveNoise(int beacon) {
        CordlessHouse x = oneCell(beacon);
        for (int channel = 0; channel < 110; channel++) {
            x.noise(16, channel, true);
        }
        x.dial(0, 1);
        x.frames(4);
        return x.bearer(0, 2);
    }

    // ---- Bearers ----

    private void bearers() {
        edges.edge("A CELL has a BEACON on a CHANNEL (told as it is made), which it sends in each FRAME",
                TermEdgesTest::beaconDisturbs);
        edges.edge("BEARERS are numbered in the order in which they were made, those that are no more"
                + " left out", TermEdgesTest::numbersOfBearers);
        edges.edge("A PORTABLE has two at most (the second one as it is handed over)",
                TermEdgesTest::twoBearersAtMost);
        edges.edge("a CELL one in a SLOT", TermEdgesTest::oneBearerInASlot);
        edges.edge("and none in its BEACON's", () -> {
            CordlessHouse x = oneCell(0);
            for (int channel = 10; channel < 120; channel++) {
                x.noise(16, channel, true);
            }
            x.dial(0, 1);
            x.frames(8);
            due.is("bearers ever made", x.count(4), 0);
            x.noise(16, 119, false);
            x.frames(4);
            due.is("channel", x.bearer(0, 2), 119);
        });
    }

    private static void beaconDisturbs() {
        CordlessHouse x = Houses.talking();
        x.cell(10);
        x.frames(5);
        due.is("fails, not reached by it", x.bearer(0, 3), 0);
        x.reach(0, 3);
        for (int i = 1; i <= 3; i++) {
            x.frames(1);
            due.is("fails", x.bearer(0, 3), i);
        }
    }

    private static void numbersOfBearers() {
        CordlessHouse x = Houses.many(8);
        x.dial(0, 1);
        x.dial(2, 3);
        x.dial(5, 4);
        x.frames(4);
        areOf(x, 5, 2, 0, 4);
        x.hang(2);
        areOf(x, 5, 0, 4);
        x.dial(7, 6);
        x.frames(3);
        areOf(x, 5, 0, 4, 7);
        x.hang(4);
        areOf(x, 0, 7);
    }

    private static void areOf(CordlessHouse x, int... portables) {
        due.is("bearers", x.count(3), portables.length);
        for (int i = 0; i < portables.length; i++) {
            due.is("bearer " + i + " is of", x.bearer(i, 0), portables[i]);
        }
        due.is("one more", x.bearer(portables.length, 0), -9);
    }

    private static void twoBearersAtMost() {
        CordlessHouse x = FrameEdgesTest.badSecond();
        due.is("TIME", x.count(0), 16);
        due.is("bearers of 0", x.portableOf(0, 3), 2);
        x.noise(0, 10, false);
        x.noise(16, 50, false);
        for (int i = 0; i < 6; i++) {
            x.frames(1);
            due.is("bearers of 0", x.portableOf(0, 3), 2);
            due.is("bearers ever made", x.count(4), 3);
        }
        due.is("TIME, after its time 20", x.count(0), 22);
        x = Houses.sixteenBearers();
        due.is("two of each of eight", x.count(3), 16);
        for (int p = 0; p < 8; p++) {
            due.is("bearers of " + p, x.portableOf(p, 3), 2);
        }
        due.is("bearer 15 is there", x.bearer(15, 1), 1);
        due.is("bearer 16 is not", x.bearer(16, 1), -9);
        x.frames(1);
        due.is("the first ones are gone", x.count(3), 8);
        due.is("the second ones are there", x.bearer(0, 1), 1);
    }

    private static void oneBearerInASlot() {
        CordlessHouse x = Houses.many(8);
        for (int channel = 30; channel < 120; channel++) {
            x.noise(16, channel, true);
        }
        x.dial(0, 1);
        x.dial(4, 2);
        x.frames(4);
        due.is("channel of 0", x.bearer(0, 2), 10);
        due.is("channel of 4", x.bearer(1, 2), 20);
        x.dial(5, 3);
        x.frames(8);
        due.is("none is left for 5, though 11 to 19 are without noise", x.portableOf(5, 3), 0);
        due.is("nor for the called ones", x.count(4), 2);
        x.noise(16, 35, false);
        x.frames(1);
        due.is("1 or 5 at TIME 13", x.bearer(2, 2), 35);
    }

    // ---- Heard at a portable ----

    private void heardAtAPortable() {
        edges.edge("is HEARD if the CELL REACHES its PLACE, there is no NOISE on the CHANNEL at the PLACE",
                () -> {
                    CordlessHouse x = Houses.talking();
                    x.go(0, 2);
                    x.frames(1);
                    due.is("not reached", x.bearer(0, 4), 0);
                    x.reach(2, 14);
                    x.frames(1);
                    due.is("reached by others", x.bearer(0, 4), 0);
                    x.reach(2, 1);
                    x.frames(1);
                    due.is("reached", x.bearer(0, 4), 1);
                    x.noise(2, 11, true);
                    x.noise(0, 10, true);
                    x.frames(1);
                    due.is("noise on another channel, at another place", x.bearer(0, 4), 1);
                    x.noise(2, 10, true);
                    x.frames(1);
                    due.is("noise", x.bearer(0, 4), 0);
                });
        edges.edge("no other CELL that REACHES it sends on the CHANNEL (its BEACON, or a BEARER)",
                TermEdgesTest::otherCellSends);
    }

    private static void otherCellSends() {
        CordlessHouse x = Houses.two();
        x.cell(77);
        x.cell(77);
        x.reach(5, 6);
        x.reach(6, 2);
        due.is("a beacon under a beacon", x.beacon(1, 5), false);
        due.is("a beacon alone", x.beacon(1, 6), true);
        x = Houses.sameChannel();
        due.is("good", x.bearer(0, 4), 1);
        due.is("it is of 1", x.bearer(0, 0), 1);
        x.reach(1, 6);
        x.frames(1);
        due.is("cell 2 has a bearer on its channel", x.bearer(0, 4), 0);
        due.is("cell 2 hears 1 besides 2", x.bearer(1, 4), 0);
        due.is("cell 3 is far", x.bearer(2, 4), 1);
        x.hang(2);
        x.frames(1);
        due.is("cell 2 does not send any more", x.bearer(0, 4), 1);
        x = Houses.ringing();
        x.cell(10);
        x.reach(0, 3);
        x.reach(5, 2);
        due.is("a beacon under a bearer", x.beacon(1, 0), false);
        due.is("out of that cell's reach", x.beacon(1, 5), true);
    }

    // ---- Heard at a cell ----

    private void heardAtACell() {
        edges.edge("is HEARD if the CELL REACHES its PLACE, there is no NOISE on the CHANNEL at the CELL",
                () -> {
                    CordlessHouse x = Houses.talking();
                    x.cell(5);
                    x.noise(17, 10, true);
                    x.noise(16, 11, true);
                    x.frames(1);
                    due.is("noise at another cell, on another channel", x.bearer(0, 4), 1);
                    x.noise(16, 10, true);
                    x.frames(1);
                    due.is("noise", x.bearer(0, 4), 0);
                    due.is("the other bearer", x.bearer(1, 4), 1);
                    noiseAtEachCell();
                });
        edges.edge("no other PORTABLE whose PLACE it REACHES has a BEARER (with any CELL) on the CHANNEL",
                TermEdgesTest::otherPortableSends);
    }

    private static void noiseAtEachCell() {
        CordlessHouse x = Houses.sameChannel();
        x.dial(0, 4);
        x.frames(1);
        int[] bearer = {3, 0, 1, 2};
        for (int c = 0; c < 4; c++) {
            x.noise(16 + c, 10, true);
            x.frames(1);
            for (int other = 0; other < 4; other++) {
                due.is("cell " + other, x.bearer(bearer[other], 1), other);
                due.is("noise at " + c, x.bearer(bearer[other], 4), other == c ? 0 : 1);
            }
            x.noise(16 + c, 10, false);
        }
    }

    /** Portable 2 with cell 2 comes to where cell 1 hears it, but cell 2 does not come to 1. */
    private static void otherPortableSends() {
        CordlessHouse x = Houses.sameChannel();
        x.reach(2, 6);
        x.frames(1);
        due.is("cell 1 hears 2 besides 1", x.bearer(0, 4), 0);
        due.is("2 hears cell 1 besides cell 2", x.bearer(1, 4), 0);
        x.reach(2, 4);
        x.frames(1);
        due.is("good again", x.bearer(0, 4), 1);
        x.reach(7, 6);
        x.go(4, 7);
        x.frames(1);
        due.is("one that has no bearer", x.bearer(0, 4), 1);
        x.reach(8, 1);
        x.go(2, 8);
        x.frames(1);
        due.is("one that cell 1 does not reach", x.bearer(0, 4), 1);
    }

    // ---- Level ----

    private void level() {
        edges.edge("4 for NOISE at the PLACE, 4 for NOISE at the CELL", () -> {
            CordlessHouse x = Houses.two();
            due.is("none", x.level(0, 0, 119), 0);
            x.noise(0, 119, true);
            due.is("at the place", x.level(0, 0, 119), 4);
            x.noise(16, 119, true);
            due.is("at both", x.level(0, 0, 119), 8);
            x.noise(0, 119, false);
            due.is("at the cell", x.level(0, 0, 119), 4);
        });
        edges.edge("1 for each other CELL that REACHES the PLACE and sends on the CHANNEL",
                TermEdgesTest::levelOfCells);
        edges.edge("1 for each other PORTABLE whose PLACE the CELL REACHES that has a BEARER on it",
                TermEdgesTest::levelOfPortables);
    }

    private static void levelOfCells() {
        CordlessHouse x = new CordlessHouse();
        for (int c = 0; c < 4; c++) {
            x.cell(40);
        }
        x.portable(0, 1);
        for (int cells = 0; cells <= 15; cells++) {
            x.reach(0, cells);
            for (int c = 0; c < 4; c++) {
                int others = Integer.bitCount(cells & ~(1 << c));
                due.is("cell " + c + " of " + cells, x.level(0, c, 40), others);
                due.is("on a channel on which none sends", x.level(0, c, 41), 0);
            }
        }
        x = Houses.sameChannel();
        for (int cells = 0; cells <= 15; cells++) {
            x.reach(0, cells);
            int others = Integer.bitCount(cells & 14);
            due.is("bearers of the cells of " + cells, x.level(0, 0, 10), others);
        }
    }

    /** At most four bearers share a channel: 8 for noise, 3 cells and 4 portables make 15. */
    private static void levelOfPortables() {
        CordlessHouse x = Houses.sameChannel();
        due.is("far from all", x.level(7, 0, 10), 0);
        for (int p = 1; p < 4; p++) {
            x.reach(p, 1 << p | 1);
            due.is("portables", x.level(7, 0, 10), p);
            due.is("the others, and its own cell", x.level(p, 0, 10), p);
        }
        for (int p = 1; p < 4; p++) {
            x.reach(p, 1 << p);
        }
        x.dial(0, 4);
        x.frames(1);
        due.is("of 0, at TIME 4", x.bearer(3, 2), 10);
        for (int place = 0; place < 4; place++) {
            x.reach(place, 15);
        }
        x.reach(9, 15);
        x.go(7, 9);
        due.is("three cells, four portables", x.level(7, 0, 10), 7);
        x.noise(9, 10, true);
        x.noise(16, 10, true);
        due.is("and noise", x.level(7, 0, 10), 15);
        due.is("of one of the four: one less, and no noise at its place", x.level(3, 0, 10), 10);
    }

    // ---- Keys ----

    private void keys() {
        edges.edge("the one that the exchange has for it (none at first, until it is ENTERED)", () -> {
            CordlessHouse x = new CordlessHouse();
            x.portable(0, 0);
            x.portable(0, 0);
            due.is("entered", x.portableOf(0, 8), 0);
            due.is("none is not 0", x.dial(0, 1), -3);
        });
        edges.edge("x becomes x exclusive or x without its lowest 29 bits (0s come from above)", () -> {
            CordlessHouse x = new CordlessHouse();
            for (int bit = 0; bit < 64; bit++) {
                long key = 1L << bit;
                due.is("bit " + bit, x.mix(key, 0), CallEdgesTest.plainMix(key, 0));
                due.is("bits from " + bit, x.mix(-key, 0), CallEdgesTest.plainMix(-key, 0));
            }
        });
        edges.edge("all longs that go round", () -> {
            CordlessHouse x = new CordlessHouse();
            for (int bit = 0; bit < 64; bit++) {
                long n = 1L << bit;
                due.is("n is bit " + bit, x.mix(0, n), CallEdgesTest.plainMix(0, n));
                due.is("n is bits from " + bit, x.mix(3, -n), CallEdgesTest.plainMix(3, -n));
            }
        });
        edges.edge("it is PROVEN if MIX of its KEY and the CHALLENGE is MIX of the exchange's KEY and it",
                TermEdgesTest::proven);
    }

    private static void proven() {
        long key = 0x123456789abcdefL;
        for (int bit = -1; bit < 64; bit++) {
            CordlessHouse x = oneCell(0);
            x.portable(0, key);
            x.enter(2, bit < 0 ? key : key ^ 1L << bit);
            x.dial(2, 0);
            x.frames(2);
            due.is("proving", x.portableOf(2, 0), 2);
            x.frames(1);
            due.is("bit " + bit + " is wrong", x.portableOf(2, 0), bit < 0 ? 3 : 0);
        }
    }

    // ---- States ----

    private void states() {
        edges.edge("0 IDLE, 1 CALLING, 2 PROVING, 3 WAITING (till the other one answers), 4 PAGED,"
                + " 5 PROVING, paged, 6 RINGING, 7 ACTIVE", () -> {
                    for (int state = 0; state <= 7; state++) {
                        CordlessHouse x = Houses.inState(state);
                        due.is("how it is", x.portableOf(Houses.whoIs(state), 0), state);
                    }
                    CordlessHouse x = Houses.inState(6);
                    x.frames(100);
                    due.is("waiting as long as none answers", x.portableOf(0, 0), 3);
                    x.answer(1);
                    due.is("active", x.portableOf(0, 0), 7);
                });
        edges.edge("But for IDLE it has a PARTNER", () -> {
            for (int state = 0; state <= 7; state++) {
                CordlessHouse x = Houses.inState(state);
                int p = Houses.whoIs(state);
                due.is("partner as it is " + state, x.portableOf(p, 2), state == 0 ? -9 : 1 - p);
                if (state != 0) {
                    x.hang(p);
                    due.is("idle", x.portableOf(p, 2), -9);
                    due.is("the other one, idle", x.portableOf(1 - p, 2), -9);
                }
            }
        });
    }

    // ---- How a call ends ----

    private void endOfACall() {
        edges.edge("A call ENDS: both are IDLE", () -> {
            for (int state = 3; state <= 7; state++) {
                for (int p = 0; p < 2; p++) {
                    CordlessHouse x = Houses.inState(state);
                    x.hang(p);
                    due.is("how 0 is", x.portableOf(0, 0), 0);
                    due.is("how 1 is", x.portableOf(1, 0), 0);
                    due.is("one call ended", x.count(6), 1);
                }
            }
        });
        edges.edge("the PARTNER if it is in this call: its PARTNER is this one", TermEdgesTest::otherCall);
        edges.edge("one of both is 1, 2 or 3, the other one 4, 5 or 6", TermEdgesTest::bothDialled);
        edges.edge("or both are 7", () -> {
            CordlessHouse x = Houses.talking();
            x.hang(0);
            due.is("its partner", x.portableOf(1, 0), 0);
            x = Houses.talking();
            x.hang(1);
            due.is("its partner", x.portableOf(0, 0), 0);
        });
        edges.edge("their BEARERS and voice that waits are no more", TermEdgesTest::nothingIsLeft);
    }

    /** Portable 2 calls one that is in a call with another one. */
    private static void otherCall() {
        for (int state = 3; state <= 7; state++) {
            for (int called = 0; called < 2; called++) {
                CordlessHouse x = Houses.inState(state);
                x.portable(0, 5);
                x.enter(2, 5);
                x.dial(2, called);
                int zero = x.portableOf(0, 0);
                int one = x.portableOf(1, 0);
                x.hang(2);
                due.is("0 stays", x.portableOf(0, 0), zero);
                due.is("1 stays", x.portableOf(1, 0), one);
                x.dial(2, called);
                x.hang(called);
                due.is("2 still calls", x.portableOf(2, 0), 1);
                due.is("the others are idle", x.portableOf(0, 0) + x.portableOf(1, 0), 0);
                due.is("calls that ended", x.count(6), 2);
            }
        }
    }

    private static void bothDialled() {
        CordlessHouse x = Houses.two();
        x.dial(0, 1);
        x.dial(1, 0);
        x.hang(0);
        due.is("1 calls in a call of its own", x.portableOf(1, 0), 1);
        due.is("its partner", x.portableOf(1, 2), 0);
        for (int p = 0; p < 2; p++) {
            x = Houses.two();
            x.dial(0, 1);
            x.dial(1, 0);
            x.frames(1);
            x.hang(p);
            due.is("0 calls, 1 is proving, hang " + p, x.portableOf(1 - p, 0), p == 0 ? 2 : 1);
            due.is("bearers", x.count(3), p == 0 ? 1 : 0);
        }
        x = Houses.many(6);
        x.dial(1, 5);
        x.dial(5, 1);
        x.frames(1);
        due.is("both are proving", x.portableOf(1, 0) + x.portableOf(5, 0), 4);
        x.hang(1);
        due.is("5 is still proving", x.portableOf(5, 0), 2);
        due.is("its bearer is the only one", x.bearer(0, 0), 5);
        due.is("calls that ended", x.count(6), 1);
    }

    private static void nothingIsLeft() {
        for (int p = 0; p < 2; p++) {
            CordlessHouse x = Houses.many(6);
            x.dial(0, 1);
            x.dial(4, 5);
            x.frames(10);
            x.answer(1);
            for (int i = 0; i < 3; i++) {
                x.say(0, 1);
                x.say(1, 1);
            }
            x.frames(1);
            due.is("voice waits", x.portableOf(p, 5) + 10 * x.portableOf(p, 6), 12);
            due.is("bearers", x.count(3), 4);
            x.hang(p);
            for (int q = 0; q < 2; q++) {
                due.is("bearers of " + q, x.portableOf(q, 3), 0);
                due.is("waits to go up", x.portableOf(q, 5), 0);
                due.is("waits for it", x.portableOf(q, 6), 0);
            }
            due.is("bearers of the others", x.portableOf(4, 3) + x.portableOf(5, 3), 2);
            due.is("none is heard", x.frames(20), 0);
        }
        CordlessHouse x = FrameEdgesTest.badSecond();
        x.hang(0);
        due.is("both of two bearers", x.portableOf(0, 3), 0);
        due.is("bearers", x.count(3), 0);
        x = Houses.talking();
        due.is("level", x.level(1, 0, 10), 1);
        x.hang(0);
        due.is("level without the bearer", x.level(1, 0, 10), 0);
    }
}
