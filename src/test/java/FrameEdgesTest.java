import java.io.IOException;

/**
 * Each sentence of a frame's six steps that names a boundary case, with a test of its own. No
 * house is used for more than 512 calls.
 */
public final class FrameEdgesTest {
    private static final Due due = new Due();

    private final Edges edges = new Edges(due);

    private FrameEdgesTest() throws IOException {
    }

    public static void main(String[] args) throws IOException {
        FrameEdgesTest test = new FrameEdgesTest();
        test.edges.section("Terms");
        test.frame();
        test.settingUpWho();
        test.settingUpCell();
        test.settingUpChannel();
        test.sending();
        test.bearersThatGo();
        test.calls();
        test.voice();
        test.oldCalls();
        due.end();
    }

    /**
     * Cells 1 to 3 have their beacons on 33 and reach place 0 as cell 0 does: there no beacon but
     * cell 0's is heard, and 33 has LEVEL 3 for cell 0, at which there is noise on all others but
     * 10 and 20. A bearer on 33 is made, but never good.
     */
    private static void onlyBadChannels(CordlessHouse x, int place) {
        for (int c = 1; c < 4; c++) {
            x.cell(33);
        }
        x.reach(place, 15);
        for (int channel = 0; channel < 120; channel++) {
            if (channel != 10 && channel != 20 && channel != 33) {
                x.noise(16, channel, true);
            }
        }
    }

    /**
     * Portable 0 talks with 1. Its first bearer (10) has 6 FAILS, as there is noise at its place,
     * its second one (33) has 1. TIME is 16.
     */
    static CordlessHouse badSecond() {
        CordlessHouse x = Houses.talking();
        onlyBadChannels(x, 0);
        x.noise(0, 10, true);
        x.frames(6);
        return x;
    }

    // ---- A frame ----

    private void frame() {
        edges.edge("TIME (0 at first) is 1 more", () -> {
            CordlessHouse x = new CordlessHouse();
            due.is("at first", x.count(0), 0);
            x.frames(1);
            due.is("after a frame", x.count(0), 1);
            x.frames(1000);
            due.is("after 1000 more", x.count(0), 1001);
        });
        edges.edge("PORTABLES always by numbers", FrameEdgesTest::byNumbers);
        edges.edge("2 SENDING", FrameEdgesTest::settingUpIsOverAsAllSend);
        edges.edge("Then of each PORTABLE with two BEARERS", FrameEdgesTest::handsOverAsItsCallEnds);
        edges.edge("4 CALLS", FrameEdgesTest::pagedAsItsOldCallEnds);
        edges.edge("5 VOICE", FrameEdgesTest::noVoiceAsTheCallEnds);
        edges.edge("6 A PORTABLE", FrameEdgesTest::notIdleUntilTheLastStep);
    }

    private static void byNumbers() {
        CordlessHouse x = Houses.many(8);
        x.dial(4, 5);
        x.dial(0, 1);
        x.frames(4);
        due.is("step 1: 0 has the first bearer", x.bearer(0, 0), 0);
        due.is("4 the second", x.bearer(1, 0), 4);
        x = Houses.many(8);
        x.dial(4, 1);
        x.dial(0, 1);
        x.frames(5);
        due.is("step 4: 0 is proven first, and has 1", x.portableOf(1, 2), 0);
        due.is("4 finds it paged", x.portableOf(4, 0), 0);
        x = Houses.talking();
        x.say(1, 6);
        x.say(0, 5);
        x.frames(1);
        due.is("step 5: the latest up is of 1", x.air(0), 6 ^ x.mix(Houses.KEY1, 11));
        x.frames(1);
        due.is("the latest down is to 1", x.air(1), 5 ^ x.mix(Houses.KEY1, 1000012));
    }

    // ---- The order of the steps ----

    /** 1 is paged in step 4 of TIME 9, its time, and must wait for the next one, TIME 13. */
    private static void settingUpIsOverAsAllSend() {
        CordlessHouse x = Houses.two();
        x.dial(0, 1);
        x.frames(4);
        due.is("made and good in one frame", x.bearer(0, 4), 1);
        x = Houses.two();
        x.frames(4);
        x.dial(0, 1);
        x.frames(5);
        due.is("paged at TIME 9", x.portableOf(1, 0), 4);
        x.frames(3);
        due.is("still without a bearer", x.portableOf(1, 3), 0);
        x.frames(1);
        due.is("with one at TIME 13", x.portableOf(1, 3), 1);
    }

    /** One has its 8th fail, and ends the call, in the frame in which the other one hands over. */
    private static void handsOverAsItsCallEnds() {
        for (int p = 0; p < 2; p++) {
            CordlessHouse x = Houses.talking();
            x.frames(2 + p);
            x.go(1 - p, 9);
            x.frames(4);
            x.noise(p, p == 0 ? 10 : 20, true);
            x.frames(3);
            due.is("hands over", x.portableOf(p, 4), 1);
            due.is("fails of the other one", x.bearer(1 - p, 3), 7);
            x.frames(1);
            due.is("a second bearer was made", x.count(4), 3);
            due.is("it was good: a handover", x.count(7), 1);
            due.is("then the call ended", x.count(6), 1);
            due.is("bearers", x.count(3), 0);
        }
    }

    /** 1 is idle in step 3 of TIME 18, as 0 has its 8th fail, and 5 is proven in step 4. */
    private static void pagedAsItsOldCallEnds() {
        CordlessHouse x = Houses.many(6);
        x.dial(0, 1);
        x.frames(10);
        x.answer(1);
        x.go(0, 9);
        x.frames(6);
        x.dial(5, 1);
        x.frames(1);
        due.is("5 is proving at TIME 17", x.portableOf(5, 0), 2);
        due.is("1 is active", x.portableOf(1, 0), 7);
        x.frames(1);
        due.is("0 is idle", x.portableOf(0, 0), 0);
        due.is("5 is waiting", x.portableOf(5, 0), 3);
        due.is("1 is paged", x.portableOf(1, 0), 4);
        due.is("by 5", x.portableOf(1, 2), 5);
        due.is("calls that ended", x.count(6), 1);
    }

    /** In the frame in which 1 has its 8th fail 0 has a good bearer, but no call any more. */
    private static void noVoiceAsTheCallEnds() {
        CordlessHouse x = Houses.talking();
        x.say(1, 5);
        x.frames(1);
        x.noise(0, 0, true);
        x.noise(0, 10, true);
        x.go(1, 9);
        x.say(0, 6);
        x.frames(7);
        due.is("7 fails of 0", x.bearer(0, 3), 7);
        due.is("7 fails of 1", x.bearer(1, 3), 7);
        due.is("waits to go up", x.portableOf(0, 5), 1);
        due.is("waits for it", x.portableOf(0, 6), 1);
        x.noise(0, 10, false);
        due.is("none is heard", x.frames(1), 0);
        due.is("none went up but that of 1", x.count(8), 1);
        due.is("none went down", x.air(1), 0);
        due.is("idle", x.portableOf(0, 0), 0);
        due.is("nothing waits", x.portableOf(0, 5) + x.portableOf(0, 6), 0);
    }

    /** 0 is idle only in step 6 of TIME 202; 5, proven in step 4, still finds it calling. */
    private static void notIdleUntilTheLastStep() {
        CordlessHouse x = Houses.many(6);
        x.go(0, 9);
        x.frames(1);
        x.dial(0, 1);
        x.frames(199);
        x.dial(5, 0);
        x.frames(1);
        due.is("5 is proving at TIME 201", x.portableOf(5, 0), 2);
        due.is("frames of 0", x.portableOf(0, 9), 200);
        x.frames(1);
        due.is("5 is idle", x.portableOf(5, 0), 0);
        due.is("0 is idle", x.portableOf(0, 0), 0);
        due.is("calls that ended", x.count(6), 2);
    }

    // ---- 1 SETTING UP: who, when ----

    private void settingUpWho() {
        edges.edge("each one that is CALLING or PAGED without a BEARER", () -> {
            CordlessHouse x = Houses.two();
            x.frames(12);
            due.is("idle", x.count(4), 0);
            x.dial(0, 1);
            x.frames(4);
            due.is("calling", x.count(4), 1);
            x.frames(5);
            due.is("paged", x.count(4), 2);
            x.frames(20);
            due.is("waiting and ringing, with one", x.count(4), 2);
            x.answer(1);
            x.frames(20);
            due.is("active, with one", x.count(4), 2);
        });
        edges.edge("or that hands over, if TIME less its number is a multiple of 4",
                FrameEdgesTest::handsOverAtItsTime);
        edges.edge("if TIME less its number is a multiple of 4", FrameEdgesTest::setsUpAtItsTime);
    }

    /** TIME less the number of 5, 6 and 7 is below 0 as they set up first. */
    private static void setsUpAtItsTime() {
        int[] first = {4, 1, 2, 3, 4, 1, 2, 3};
        for (int p = 0; p < 8; p++) {
            CordlessHouse x = Houses.many(8);
            x.dial(p, p ^ 1);
            for (int time = 1; time <= first[p]; time++) {
                x.frames(1);
                due.is("bearers of " + p + " at " + time, x.count(4), time == first[p] ? 1 : 0);
            }
            x.hang(p);
            x.dial(p, p ^ 1);
            for (int i = 1; i <= 4; i++) {
                x.frames(1);
                due.is("and once more after " + i, x.count(4), i == 4 ? 2 : 1);
            }
        }
    }

    /** Hands over from 3 FAILS on: at TIME 13, 14, 15 or 16, and sets up at 16 or 20. */
    private static void handsOverAtItsTime() {
        for (int wait = 0; wait <= 4; wait++) {
            CordlessHouse x = Houses.talking();
            if (wait > 0) {
                x.frames(wait);
            }
            x.noise(0, 10, true);
            x.frames(3);
            due.is("hands over", x.portableOf(0, 4), 1);
            int at = 13 + wait < 16 ? 16 : 20;
            while (x.count(0) < at - 1) {
                x.frames(1);
                due.is("bearers ever made", x.count(4), 2);
            }
            x.frames(1);
            due.is("bearers ever made at " + at, x.count(4), 3);
        }
    }

    // ---- 1 SETTING UP: the cell ----

    private void settingUpCell() {
        edges.edge("of CELLS that REACH its PLACE, that have its BEACON HEARD there, the least number",
                FrameEdgesTest::leastCell);
        edges.edge("(handing over: but that of its BEARER if there is another one",
                FrameEdgesTest::anotherCell);
        edges.edge("without one none but that)", FrameEdgesTest::itsOwnCell);
    }

    private static int cellOf(int reach, int noise) {
        CordlessHouse x = Houses.fourCells();
        x.portable(0, 5);
        x.portable(9, 5);
        x.enter(0, 5);
        x.enter(1, 5);
        x.reach(0, reach);
        for (int c = 0; c < 4; c++) {
            x.noise(0, c, (noise & 1 << c) != 0);
        }
        x.dial(0, 1);
        x.frames(4);
        return x.bearer(0, 1);
    }

    private static void leastCell() {
        for (int reach = 0; reach <= 15; reach++) {
            for (int noise = 0; noise <= 15; noise++) {
                int heard = reach & ~noise;
                int least = heard == 0 ? -9 : Integer.numberOfTrailingZeros(heard);
                due.is("reached by " + reach + ", noise on " + noise, cellOf(reach, noise), least);
            }
        }
        CordlessHouse x = Houses.two();
        x.cell(0);
        x.cell(5);
        x.reach(0, 7);
        x.dial(0, 1);
        x.frames(4);
        due.is("0 and 1 send on one channel", x.bearer(0, 1), 2);
    }

    /** Portable 0 has its bearer with this cell of four; from the next call on all reach it. */
    private static CordlessHouse talksWith(int cell) {
        CordlessHouse x = Houses.fourCells();
        x.portable(0, 5);
        x.portable(1, 5);
        x.enter(0, 5);
        x.enter(1, 5);
        x.reach(0, 1 << cell);
        x.reach(1, 1);
        x.dial(0, 1);
        x.frames(10);
        x.answer(1);
        return x;
    }

    /** TIME is 16 in the end; the bearer of 1 is bearer 0 then. */
    private static int cellAfter(int had, int reach) {
        CordlessHouse x = talksWith(had);
        x.reach(0, reach);
        x.noise(0, x.bearer(0, 2), true);
        x.frames(6);
        due.is("handovers", x.count(7), x.count(4) - 2);
        return x.count(4) == 2 ? -9 : x.bearer(1, 1);
    }

    private static void anotherCell() {
        for (int had = 0; had < 4; had++) {
            for (int reach = 0; reach <= 15; reach++) {
                int others = reach & ~(1 << had);
                if (others != 0) {
                    int least = Integer.numberOfTrailingZeros(others);
                    due.is("from " + had + ", reached by " + reach, cellAfter(had, reach), least);
                }
            }
        }
    }

    private static void itsOwnCell() {
        for (int had = 0; had < 4; had++) {
            due.is("reached by " + had + " alone", cellAfter(had, 1 << had), had);
            due.is("reached by none", cellAfter(had, 0), -9);
            CordlessHouse x = talksWith(had);
            x.reach(0, 15);
            for (int c = 0; c < 4; c++) {
                x.noise(0, c, c != had);
            }
            x.noise(0, x.bearer(0, 2), true);
            x.frames(6);
            due.is("the others' beacons are not heard", x.bearer(1, 1), had);
            due.is("handovers", x.count(7), 1);
        }
        CordlessHouse x = talksWith(0);
        x.noise(0, 0, true);
        x.noise(0, x.bearer(0, 2), true);
        x.frames(7);
        due.is("nor its own cell's", x.count(4), 2);
    }

    // ---- 1 SETTING UP: the channel ----

    private void settingUpChannel() {
        edges.edge("whose SLOT has neither a BEARER of the CELL", () -> {
            CordlessHouse x = noiseButSlots(Houses.many(8), 16, 1, 1);
            x.dial(0, 1);
            x.dial(4, 2);
            x.frames(12);
            due.is("slot 1 is taken by 0", x.portableOf(0, 3), 1);
            due.is("none for 4", x.portableOf(4, 3), 0);
            due.is("bearers ever made", x.count(4), 1);
        });
        edges.edge("nor its BEACON", () -> {
            CordlessHouse x = noiseButSlots(Houses.two(), 16, 0, 0);
            x.dial(0, 1);
            x.frames(12);
            due.is("slot 0 is the beacon's", x.count(4), 0);
        });
        edges.edge("nor a BEARER of the PORTABLE", FrameEdgesTest::notItsOwnSlot);
        edges.edge("the one of the least LEVEL", FrameEdgesTest::leastLevel);
        edges.edge("of several the least number", FrameEdgesTest::leastNumber);
        edges.edge("if that LEVEL is below 4", FrameEdgesTest::levelBelowFour);
        edges.edge("a BEARER is made on it, at the end of all BEARERS (those that follow see it)", () -> {
            CordlessHouse x = Houses.many(8);
            x.dial(0, 1);
            x.dial(4, 3);
            x.dial(5, 2);
            x.frames(4);
            due.is("of 5, made at TIME 1", x.bearer(0, 0), 5);
            due.is("of 0, made at TIME 4", x.bearer(1, 0), 0);
            due.is("of 4, behind it", x.bearer(2, 0), 4);
            due.is("0 sees 5's slot", x.bearer(1, 2), 20);
            due.is("4 sees 0's slot", x.bearer(2, 2), 30);
        });
    }

    private static CordlessHouse noiseButSlots(CordlessHouse x, int where, int from, int to) {
        for (int channel = 0; channel < 120; channel++) {
            if (channel / 10 < from || channel / 10 > to) {
                x.noise(where, channel, true);
            }
        }
        return x;
    }

    /**
     * Cell 1 has noise but in slot 1, in which 0's bearer with cell 0 is; then but in 1 and 2, and
     * on 20 cell 0 sends.
     */
    private static void notItsOwnSlot() {
        for (int to = 1; to <= 2; to++) {
            CordlessHouse x = Houses.talking();
            x.cell(50);
            x.reach(0, 3);
            noiseButSlots(x, 17, 1, to);
            x.noise(0, 10, true);
            x.frames(7);
            due.is("handovers", x.count(7), to - 1);
            due.is("bearers ever made", x.count(4), to + 1);
            due.is("channel", x.bearer(to - 1, 2), to == 1 ? 10 : 21);
        }
    }

    /** Beacons make LEVEL 3 on 33, 2 on 34 and 1 on 35 or 36; the cell's other channels have noise. */
    private static int channelOf(int[] beacons, int[] free) {
        CordlessHouse x = Houses.two();
        for (int beacon : beacons) {
            x.cell(beacon);
        }
        x.reach(0, 15);
        for (int channel = 0; channel < 120; channel++) {
            boolean on = true;
            for (int one : free) {
                on = on && one != channel;
            }
            x.noise(16, channel, on);
        }
        x.dial(0, 1);
        x.frames(4);
        return x.bearer(0, 2);
    }

    private static void leastLevel() {
        due.is("3 alone", channelOf(new int[] {33, 33, 33}, new int[] {33}), 33);
        due.is("2 and 1", channelOf(new int[] {33, 33, 35}, new int[] {33, 35}), 35);
        due.is("2, 1 and 0", channelOf(new int[] {33, 33, 35}, new int[] {33, 35, 119}), 119);
        due.is("0, 2 and 1", channelOf(new int[] {33, 33, 35}, new int[] {10, 33, 35}), 10);
        due.is("1 and 2", channelOf(new int[] {33, 35, 35}, new int[] {33, 35}), 33);
    }

    private static void leastNumber() {
        due.is("1 and 1", channelOf(new int[] {36, 35, 33}, new int[] {35, 36}), 35);
        due.is("0 and 0", channelOf(new int[] {33, 33, 33}, new int[] {118, 119}), 118);
        due.is("1, 0 and 0", channelOf(new int[] {33, 33, 35}, new int[] {35, 44, 55}), 44);
    }

    /** LEVEL 4 by noise at the place or at the cell, and by three cells and a portable. */
    private static void levelBelowFour() {
        due.is("noise at the cell on all", channelOf(new int[0], new int[0]), -9);
        for (int more = 0; more < 2; more++) {
            CordlessHouse x = Houses.two();
            Houses.noiseBut(x, 0, 0);
            x.noise(0, 57, more == 1);
            x.dial(0, 1);
            x.frames(4);
            due.is("noise at the place", x.bearer(0, 2), more == 1 ? -9 : 57);
            x = Houses.sameChannel();
            x.reach(0, 15);
            x.reach(1, more == 1 ? 3 : 2);
            Houses.noiseBut(x, 16, 10);
            due.is("level", x.level(0, 0, 10), 3 + more);
            x.dial(0, 4);
            x.frames(1);
            due.is("bearers of 0 at TIME 4", x.portableOf(0, 3), 1 - more);
        }
    }

    // ---- 2 SENDING ----

    private void sending() {
        edges.edge("it is GOOD in this FRAME if both are HEARD (all BEARERS send): FAILS is 0",
                FrameEdgesTest::allSend);
        edges.edge("else FAILS is 1 more", () -> {
            CordlessHouse x = Houses.talking();
            x.noise(0, 0, true);
            x.noise(0, 10, true);
            for (int i = 1; i <= 7; i++) {
                x.frames(1);
                due.is("fails", x.bearer(0, 3), i);
            }
            x.noise(0, 10, false);
            x.frames(1);
            due.is("good once", x.bearer(0, 3), 0);
            x.noise(0, 10, true);
            x.frames(1);
            due.is("from 0 again", x.bearer(0, 3), 1);
        });
    }

    /**
     * Portable 0 with cell 0 has bearer 0 on 10, which is disturbed from the frame on in which 4
     * and cell 1 have made a later one on it: cell 1 reaches both.
     */
    private static void allSend() {
        CordlessHouse x = Houses.many(8);
        x.cell(1);
        x.reach(0, 3);
        x.reach(1, 2);
        x.go(4, 1);
        Houses.noiseBut(x, 17, 10);
        x.dial(0, 1);
        x.dial(4, 2);
        x.frames(4);
        due.is("of 0", x.bearer(0, 0), 0);
        due.is("channel of 4", x.bearer(1, 2), 10);
        due.is("that of 0 is not good", x.bearer(0, 4), 0);
        due.is("fails of 0", x.bearer(0, 3), 1);
        due.is("fails of 4", x.bearer(1, 3), 1);
        x.reach(0, 1);
        x.frames(1);
        due.is("apart: good", x.bearer(0, 4), 1);
        due.is("fails of 0", x.bearer(0, 3), 0);
        x.noise(16, 10, true);
        x.frames(1);
        due.is("not heard at the cell alone", x.bearer(0, 3), 1);
        x.noise(16, 10, false);
        x.noise(0, 10, true);
        x.frames(1);
        due.is("not heard at the portable alone", x.bearer(0, 3), 2);
    }

    // ---- 3 Bearers that go ----

    private void bearersThatGo() {
        edges.edge("BEARERS with FAILS of 8 are no more", () -> {
            CordlessHouse x = Houses.talking();
            x.go(0, 9);
            x.frames(7);
            due.is("7 fails", x.bearer(0, 3), 7);
            due.is("still there", x.portableOf(0, 3), 1);
            x.frames(1);
            due.is("8 fails", x.portableOf(0, 3), 0);
        });
        edges.edge("Then of each PORTABLE with two BEARERS the first is no more if the second one was GOOD"
                + " in this FRAME", FrameEdgesTest::firstGoesForSecond);
        edges.edge("A PORTABLE hands over as long as its only BEARER has FAILS of 3 or more",
                FrameEdgesTest::handsOver);
        edges.edge("A PORTABLE that is not IDLE, CALLING or PAGED, without a BEARER: its call ENDS",
                FrameEdgesTest::withoutABearer);
    }

    private static void firstGoesForSecond() {
        CordlessHouse x = badSecond();
        due.is("the second one is not good", x.portableOf(0, 3), 2);
        due.is("handovers", x.count(7), 0);
        x.reach(0, 1);
        x.frames(1);
        due.is("it is good now", x.portableOf(0, 3), 1);
        due.is("the one that stays, behind that of 1", x.bearer(1, 2), 33);
        due.is("handovers", x.count(7), 1);
        x = badSecond();
        x.noise(0, 10, false);
        x.reach(0, 1);
        x.frames(1);
        due.is("though the first one is good too", x.bearer(1, 2), 33);
        due.is("handovers", x.count(7), 1);
        x = badSecond();
        x.frames(1);
        due.is("7 fails of the first one", x.bearer(0, 3), 7);
        x.reach(0, 1);
        x.frames(1);
        due.is("it had 8 first: that is no handover", x.count(7), 0);
        due.is("bearers", x.portableOf(0, 3), 1);
        due.is("the second one", x.bearer(1, 2), 33);
        due.is("the call goes on", x.portableOf(0, 0), 7);
    }

    private static void handsOver() {
        CordlessHouse x = Houses.talking();
        onlyBadChannels(x, 0);
        x.noise(0, 10, true);
        int[] fails = {1, 2, 3, 4, 5, 6};
        for (int i = 0; i < 6; i++) {
            x.frames(1);
            due.is("fails", x.bearer(0, 3), fails[i]);
            due.is("hands over", x.portableOf(0, 4), i >= 2 && i < 5 ? 1 : 0);
        }
        due.is("two bearers at TIME 16", x.portableOf(0, 3), 2);
        x.frames(2);
        due.is("the first one had 8 fails", x.portableOf(0, 3), 1);
        due.is("fails of its only one", x.bearer(1, 3), 3);
        due.is("hands over", x.portableOf(0, 4), 1);
        x.reach(0, 1);
        x.frames(1);
        due.is("good", x.bearer(1, 3), 0);
        due.is("hands over", x.portableOf(0, 4), 0);
    }

    private static void withoutABearer() {
        for (int state = 2; state <= 7; state++) {
            if (state != 4) {
                CordlessHouse x = Houses.inState(state);
                int p = Houses.whoIs(state);
                x.go(p, 9);
                x.frames(7);
                due.is("7 fails as it is " + state, x.portableOf(p, 0), state);
                x.frames(1);
                due.is("8 fails as it is " + state, x.portableOf(p, 0), 0);
                due.is("the other one", x.portableOf(1 - p, 0), 0);
                due.is("bearers", x.count(3), 0);
                due.is("calls that ended", x.count(6), 1);
            }
        }
        callerAndPagedStay();
    }

    private static void callerAndPagedStay() {
        CordlessHouse x = Houses.two();
        onlyBadChannels(x, 0);
        x.noise(16, 10, true);
        x.noise(16, 20, true);
        x.dial(0, 1);
        x.frames(10);
        due.is("7 fails as it is calling", x.bearer(0, 3), 7);
        x.frames(1);
        due.is("8 fails", x.portableOf(0, 3), 0);
        due.is("still calling", x.portableOf(0, 0), 1);
        x.frames(1);
        due.is("tries again", x.count(4), 2);
        x = Houses.inState(4);
        onlyBadChannels(x, 1);
        x.noise(16, 20, true);
        x.frames(10);
        due.is("7 fails as it is paged", x.bearer(1, 3), 7);
        x.frames(1);
        due.is("8 fails", x.portableOf(1, 3), 0);
        due.is("still paged", x.portableOf(1, 0), 4);
        x.frames(1);
        due.is("tries again", x.count(4), 3);
        due.is("calls that ended", x.count(6), 0);
    }

    // ---- 4 CALLS ----

    private void calls() {
        edges.edge("each PORTABLE with a BEARER that was GOOD (one of its)", FrameEdgesTest::oneOfItsIsGood);
        edges.edge("CALLING, PAGED: it is PROVING (2, 5)", () -> {
            CordlessHouse x = Houses.inState(1);
            x.frames(3);
            due.is("calling without a bearer", x.portableOf(0, 0), 1);
            x.frames(1);
            due.is("with a good one", x.portableOf(0, 0), 2);
            x.frames(4);
            due.is("paged without a bearer", x.portableOf(1, 0), 4);
            x.frames(1);
            due.is("with a good one", x.portableOf(1, 0), 5);
        });
        edges.edge("PROVING (as this FRAME began)", () -> {
            CordlessHouse x = Houses.inState(2);
            due.is("not proven in the frame in which it began to be", x.portableOf(0, 0), 2);
            x.frames(1);
            due.is("but in the next one", x.portableOf(0, 0), 3);
            x = Houses.inState(5);
            due.is("paged, too", x.portableOf(1, 0), 5);
            x.frames(1);
            due.is("but in the next one", x.portableOf(1, 0), 6);
        });
        edges.edge("2: it is WAITING, and its PARTNER, if IDLE, is PAGED, its PARTNER being this one", () -> {
            CordlessHouse x = Houses.inState(2);
            x.frames(1);
            due.is("how it is", x.portableOf(0, 0), 3);
            due.is("how its partner is", x.portableOf(1, 0), 4);
            due.is("that one's partner", x.portableOf(1, 2), 0);
            due.is("that one's frames", x.portableOf(1, 9), 0);
        });
        edges.edge("if that is not IDLE, or not ENTERED, the call ENDS", FrameEdgesTest::partnerIsNotIdle);
        edges.edge("5: it is RINGING", () -> {
            CordlessHouse x = Houses.inState(5);
            x.noise(1, 20, true);
            x.frames(1);
            due.is("not without a good bearer", x.portableOf(1, 0), 5);
            x.noise(1, 20, false);
            x.frames(1);
            due.is("ringing", x.portableOf(1, 0), 6);
            due.is("its caller", x.portableOf(0, 0), 3);
        });
        edges.edge("If it is not PROVEN: the call ENDS", FrameEdgesTest::notProven);
    }

    /** The first one of two bearers is good, the second one is not. */
    private static void oneOfItsIsGood() {
        CordlessHouse x = Houses.inState(2);
        onlyBadChannels(x, 0);
        x.noise(16, 20, true);
        x.noise(0, 10, true);
        x.frames(4);
        due.is("two at TIME 8", x.portableOf(0, 3), 2);
        due.is("none is good: still proving", x.portableOf(0, 0), 2);
        x.noise(0, 10, false);
        x.frames(1);
        due.is("the first one is good", x.bearer(0, 4), 1);
        due.is("the second one is not", x.bearer(1, 4), 0);
        due.is("waiting", x.portableOf(0, 0), 3);
        x = Houses.inState(2);
        x.noise(0, 10, true);
        x.frames(3);
        due.is("no bearer is good: still proving", x.portableOf(0, 0), 2);
        x.frames(1);
        due.is("a second one is, at TIME 8", x.portableOf(0, 0), 3);
    }

    /** Portable 6 dials at TIME 2, and is proven at TIME 7, one that is in this state by then. */
    private static void partnerIsNotIdle() {
        for (int state = 1; state <= 7; state++) {
            CordlessHouse x = Houses.many(8);
            int p = Houses.whoIs(state);
            x.dial(0, 1);
            int[] frames = {0, 1, 4, 5, 5, 9, 10, 10};
            x.frames(frames[state]);
            if (state == 7) {
                x.answer(1);
            }
            if (state == 2 || state == 5) {
                x.noise(16, x.bearer(state == 2 ? 0 : 1, 2), true);
            }
            if (state == 4) {
                x.go(1, 9);
            }
            int other = (x.count(0) + 1) % 4 + 4;
            x.dial(other, p);
            x.frames(1);
            due.is("proving", x.portableOf(other, 0), 2);
            x.frames(1);
            due.is("how the partner is", x.portableOf(p, 0), state);
            due.is("it is idle", x.portableOf(other, 0), 0);
            due.is("its bearer is no more", x.portableOf(other, 3), 0);
            due.is("calls that ended", x.count(6), 1);
        }
        partnerBecomesIdle();
    }

    /** 1 is not proven at TIME 10, in which 5 is proven behind it, and finds it idle. */
    private static void partnerBecomesIdle() {
        CordlessHouse x = Houses.many(6);
        x.enter(1, 6);
        x.dial(0, 1);
        x.frames(6);
        x.dial(5, 1);
        x.frames(3);
        due.is("1 is proving, paged", x.portableOf(1, 0), 5);
        due.is("5 is proving", x.portableOf(5, 0), 2);
        x.frames(1);
        due.is("0 is idle", x.portableOf(0, 0), 0);
        due.is("1 is paged", x.portableOf(1, 0), 4);
        due.is("by 5", x.portableOf(1, 2), 5);
        due.is("5 is waiting", x.portableOf(5, 0), 3);
    }

    private static void notProven() {
        CordlessHouse x = Houses.two();
        x.enter(0, Houses.KEY0 ^ Long.MIN_VALUE);
        x.dial(0, 1);
        x.frames(4);
        due.is("proving", x.portableOf(0, 0), 2);
        x.frames(1);
        due.is("the caller is idle", x.portableOf(0, 0), 0);
        due.is("none is paged", x.portableOf(1, 0), 0);
        due.is("calls that ended", x.count(6), 1);
        due.is("bearers", x.count(3), 0);
        x = Houses.two();
        x.enter(1, Houses.KEY1 ^ 1);
        x.dial(0, 1);
        x.frames(9);
        due.is("proving, paged", x.portableOf(1, 0), 5);
        x.frames(1);
        due.is("the called one is idle", x.portableOf(1, 0), 0);
        due.is("the caller is idle", x.portableOf(0, 0), 0);
        due.is("calls that ended", x.count(6), 1);
        due.is("bearers", x.count(3), 0);
    }

    // ---- 5 VOICE ----

    private void voice() {
        edges.edge("each PORTABLE that is ACTIVE, with a BEARER that was GOOD: of what it SAYS the first"
                + " block goes up", FrameEdgesTest::goesUp);
        edges.edge("on air is the block exclusive or MIX of its KEY and TIME", () -> {
            CordlessHouse x = Houses.talking();
            x.say(0, Long.MIN_VALUE);
            x.frames(1);
            long mixed = CallEdgesTest.plainMix(Houses.KEY0, 11);
            due.is("air(0)", x.air(0), Long.MIN_VALUE ^ mixed);
            x.say(0, mixed(12));
            x.frames(1);
            due.is("a block that is ciphered to 0", x.air(0), 0);
        });
        edges.edge("(16 at most wait; one more is lost)", FrameEdgesTest::sixteenWait);
        edges.edge("Then each PORTABLE that is ACTIVE, with a BEARER that was GOOD: of what waits for it",
                FrameEdgesTest::goesDown);
        edges.edge("the first block that was there ahead of this FRAME goes down likewise",
                FrameEdgesTest::aheadOfThisFrame);
        edges.edge("(with MIX of the exchange's KEY for this one and TIME + 1000000, then of its own KEY"
                + " and that), and it HEARS it", () -> {
                    CordlessHouse x = Houses.talking();
                    x.say(0, -1);
                    x.frames(2);
                    due.is("air(1)", x.air(1), ~CallEdgesTest.plainMix(Houses.KEY1, 1000012));
                    due.is("heard(1, 0)", x.heard(1, 0), -1);
                });
    }

    private static long mixed(int time) {
        return CallEdgesTest.plainMix(Houses.KEY0, time);
    }

    private static void goesUp() {
        CordlessHouse x = Houses.talking();
        x.frames(3);
        due.is("nothing was said", x.count(8), 0);
        due.is("nothing is on air", x.air(0), 0);
        for (int i = 1; i <= 8; i++) {
            x.say(0, i);
        }
        for (int i = 1; i <= 8; i++) {
            x.frames(1);
            due.is("one in each frame", x.count(8), i);
            due.is("wait", x.portableOf(0, 5), 8 - i);
        }
        x.frames(1);
        due.is("no more", x.count(8), 8);
        x.say(0, 9);
        x.noise(16, 10, true);
        x.frames(1);
        due.is("not with a bearer that is not good", x.count(8), 8);
        x = badSecond();
        x.say(0, 1);
        x.frames(1);
        due.is("nor with two such", x.count(8), 0);
        x.noise(0, 10, false);
        x.frames(1);
        due.is("but with a good first one", x.count(8), 1);
    }

    private static void goesDown() {
        CordlessHouse x = Houses.talking();
        x.say(0, 1);
        x.frames(1);
        x.noise(1, 20, true);
        due.is("not with a bearer that is not good", x.frames(2), 0);
        due.is("it waits", x.portableOf(1, 6), 1);
        due.is("nothing was on air", x.air(1), 0);
        x.noise(1, 20, false);
        due.is("with a good one", x.frames(1), 1);
        due.is("none waits", x.portableOf(1, 6), 0);
        due.is("nothing more", x.frames(3), 0);
    }

    private static void aheadOfThisFrame() {
        CordlessHouse x = Houses.talking();
        x.say(0, 1);
        x.say(1, 2);
        due.is("both went up in this one", x.frames(1), 0);
        due.is("wait for 0", x.portableOf(0, 6), 1);
        due.is("wait for 1", x.portableOf(1, 6), 1);
        due.is("both go down in the next one", x.frames(1), 2);
        for (int i = 0; i < 3; i++) {
            x.say(0, 10 + i);
            due.is("one that came goes a frame later", x.frames(1), i == 0 ? 0 : 1);
            due.is("wait for 1", x.portableOf(1, 6), 1);
        }
        due.is("the last one", x.frames(1), 1);
        for (int i = 0; i < 3; i++) {
            due.is("in their order", x.heard(1, 1 + i), 10 + i);
        }
    }

    /**
     * 1 has noise but in each eighth frame, and hears no beacon by which it could hand over: after
     * 16 frames 14 wait. 15, 16 and one more: with 16 waiting a block is lost even if one goes down
     * in the same frame, since all go up first.
     */
    private static void sixteenWait() {
        CordlessHouse x = Houses.talking();
        x.noise(1, 0, true);
        for (int block = 1; block <= 16; block++) {
            x.noise(1, 20, block % 8 != 0);
            x.say(0, block);
            due.is("heard", x.frames(1), block % 8 == 0 ? 1 : 0);
        }
        due.is("wait", x.portableOf(1, 6), 14);
        x.noise(1, 20, true);
        int[] wait = {15, 16, 16};
        for (int i = 0; i < 3; i++) {
            x.say(0, 17 + i);
            x.frames(1);
            due.is("wait", x.portableOf(1, 6), wait[i]);
        }
        x.noise(1, 20, false);
        x.say(0, 20);
        due.is("one goes down", x.frames(1), 1);
        due.is("20 was lost", x.portableOf(1, 6), 15);
        x.say(0, 21);
        due.is("the rest", x.frames(20), 16);
        for (int i = 1; i <= 18; i++) {
            due.is("heard", x.heard(1, i - 1), i);
        }
        due.is("19 and 20 were not", x.heard(1, 18), 21);
        due.is("went up", x.count(8), 21);
    }

    // ---- 6 Old calls ----

    private void oldCalls() {
        edges.edge("in the same call for more than 200 FRAMES since it was CALLING or PAGED: the call ENDS",
                FrameEdgesTest::twoHundredFrames);
        edges.edge("6 A PORTABLE that is CALLING, PROVING, WAITING, PAGED or RINGING", () -> {
            calledForLong(true);
            calledForLong(false);
            provingForLong();
            CordlessHouse x = Houses.talking();
            x.frames(1000);
            due.is("active ones stay", x.portableOf(0, 0) + x.portableOf(1, 0), 14);
        });
    }

    private static void twoHundredFrames() {
        CordlessHouse x = Houses.two();
        x.reach(0, 0);
        x.frames(3);
        x.dial(0, 1);
        x.frames(200);
        due.is("200", x.portableOf(0, 9), 200);
        due.is("calling", x.portableOf(0, 0), 1);
        x.frames(1);
        due.is("201", x.portableOf(0, 0), 0);
        due.is("partner", x.portableOf(0, 2), -9);
        due.is("calls that ended", x.count(6), 1);
        x.dial(0, 1);
        x.frames(150);
        x.hang(0);
        x.dial(0, 1);
        x.frames(200);
        due.is("another call has its own 200", x.portableOf(0, 0), 1);
        x.frames(1);
        due.is("and no more", x.portableOf(0, 0), 0);
    }

    /** The called one is 5 frames behind its caller, whose 200 frames are over first. */
    private static void calledForLong(boolean rings) {
        CordlessHouse x = Houses.inState(3);
        x.go(1, rings ? 1 : 9);
        x.frames(195);
        due.is("waiting", x.portableOf(0, 0), 3);
        due.is("ringing, or paged", x.portableOf(1, 0), rings ? 6 : 4);
        due.is("its caller's frames", x.portableOf(0, 9), 200);
        due.is("its frames", x.portableOf(1, 9), 195);
        x.frames(1);
        due.is("the caller is idle", x.portableOf(0, 0), 0);
        due.is("the called one is idle", x.portableOf(1, 0), 0);
        due.is("bearers", x.count(3), 0);
        due.is("calls that ended", x.count(6), 1);
    }

    /**
     * 0 can set up with cell 0 on 33 and 44, with cell 3 on 0 and 33 alone, and on each of these
     * there is a beacon of another cell: but for TIME 7 none of its bearers is ever good. As each
     * is made 4 frames behind the one before, there is always one.
     */
    private static void provingForLong() {
        CordlessHouse x = Houses.two();
        x.cell(33);
        x.cell(33);
        x.cell(44);
        x.reach(0, 15);
        for (int channel = 0; channel < 120; channel++) {
            x.noise(16, channel, channel != 33 && channel != 44);
            x.noise(19, channel, channel != 33 && channel != 0);
        }
        x.dial(0, 1);
        x.frames(6);
        due.is("calling at TIME 6", x.portableOf(0, 0), 1);
        x.reach(0, 1);
        x.frames(1);
        due.is("proving at TIME 7", x.portableOf(0, 0), 2);
        x.reach(0, 15);
        x.frames(193);
        due.is("frames", x.portableOf(0, 9), 200);
        due.is("still proving", x.portableOf(0, 0), 2);
        due.is("bearers ever made", x.count(4), 49);
        due.is("calls that ended", x.count(6), 0);
        x.frames(1);
        due.is("idle", x.portableOf(0, 0), 0);
        due.is("bearers", x.count(3), 0);
        due.is("calls that ended", x.count(6), 1);
    }
}
