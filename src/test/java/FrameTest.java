/** The six steps of a frame (promise 12, seen through 14, 15 and 20). */
public final class FrameTest {
    private static final Due due = new Due();

    public static void main(String[] args) {
        setsUpAtItsTime();
        choosesCell();
        choosesChannel();
        refusesDisturbedChannels();
        levelOfThreeWillDo();
        cellsThatAreNotThereYet();
        laterOnesSeeNewBearers();
        sharesAChannelWhereNothingElseIs();
        fullCell();
        failsAndHandsOver();
        noiseAtAnyCell();
        prefersAnotherCell();
        handsOverToItsOwnCell();
        handsOverNowhere();
        firstGoesOnlyForAGoodSecond();
        firstThatFailedIsNoHandover();
        allHaveTwoBearers();
        callerKeepsTrying();
        lostBearerEndsCall();
        bearersThatAreNoMore();
        stepsOfACall();
        wrongKeyOfCaller();
        wrongKeyOfCalled();
        busyPartner();
        dialEachOther();
        longWait();
        longRinging();
        voiceNeedsGoodBearers();
        voiceWaitsAFrame();
        exchangeHoldsSixteen();
        newCallHasNoOldVoice();
        due.end();
    }

    private static void setsUpAtItsTime() {
        due.about("step 1, when");
        for (int p = 0; p < 8; p++) {
            CordlessHouse x = Houses.many(8);
            x.dial(p, (p + 1) % 8);
            int at = p % 4 == 0 ? 4 : p % 4;
            if (at > 1) {
                x.frames(at - 1);
            }
            due.is("bearers of " + p + " before", x.count(3), 0);
            x.frames(1);
            due.is("bearers of " + p, x.count(3), 1);
            due.is("whose", x.bearer(0, 0), p);
        }
    }

    private static CordlessHouse threeCells() {
        CordlessHouse x = new CordlessHouse();
        x.cell(0);
        x.cell(11);
        x.cell(22);
        x.reach(0, 7);
        x.portable(0, 5);
        x.portable(1, 5);
        x.enter(0, 5);
        x.enter(1, 5);
        return x;
    }

    private static void choosesCell() {
        due.about("step 1, the cell");
        CordlessHouse x = threeCells();
        x.dial(0, 1);
        x.frames(4);
        due.is("the least", x.bearer(0, 1), 0);
        x = threeCells();
        x.noise(0, 0, true);
        x.dial(0, 1);
        x.frames(4);
        due.is("the least whose beacon is heard", x.bearer(0, 1), 1);
        x = threeCells();
        x.reach(0, 4);
        x.dial(0, 1);
        x.frames(4);
        due.is("the one that reaches", x.bearer(0, 1), 2);
        due.is("its first free slot", x.bearer(0, 2), 0);
        x = threeCells();
        x.cell(0);
        x.reach(0, 15);
        x.dial(0, 1);
        x.frames(4);
        due.is("0 and 3 disturb each other", x.bearer(0, 1), 1);
        x = threeCells();
        x.reach(0, 0);
        x.dial(0, 1);
        x.frames(40);
        due.is("none reaches", x.count(4), 0);
        due.is("still calling", x.portableOf(0, 0), 1);
    }

    private static void choosesChannel() {
        due.about("step 1, the channel");
        CordlessHouse x = Houses.two();
        x.noise(0, 10, true);
        x.noise(16, 11, true);
        x.dial(0, 1);
        x.frames(4);
        due.is("neither 10 nor 11", x.bearer(0, 2), 12);
        x = threeCells();
        x.reach(0, 3);
        x.dial(0, 1);
        x.frames(4);
        due.is("not 11 alone: it is less by its number", x.bearer(0, 2), 10);
        x = threeCells();
        x.noise(0, 10, true);
        x.dial(0, 1);
        x.frames(4);
        due.is("neither 10 (noise) nor 11 (a beacon)", x.bearer(0, 2), 12);
    }

    private static void refusesDisturbedChannels() {
        due.about("step 1, noise");
        CordlessHouse x = Houses.two();
        Houses.noiseBut(x, 16, 57);
        x.dial(0, 1);
        x.frames(4);
        due.is("the only one", x.bearer(0, 2), 57);
        x = Houses.two();
        Houses.noiseBut(x, 16, 57);
        x.noise(16, 57, true);
        x.dial(0, 1);
        x.frames(40);
        due.is("none", x.count(4), 0);
        x = Houses.two();
        Houses.noiseBut(x, 16, 5);
        x.dial(0, 1);
        x.frames(40);
        due.is("not in the beacon's slot", x.count(4), 0);
    }

    private static void levelOfThreeWillDo() {
        due.about("step 1, a level of 3");
        CordlessHouse x = Houses.two();
        x.cell(33);
        x.cell(33);
        x.cell(33);
        x.reach(0, 15);
        Houses.noiseBut(x, 16, 33);
        due.is("level", x.level(0, 0, 33), 3);
        x.dial(0, 1);
        x.frames(4);
        due.is("channel", x.bearer(0, 2), 33);
        due.is("not good", x.bearer(0, 4), 0);
        x.frames(7);
        due.is("it failed 8 times", x.count(3), 0);
        due.is("still calling", x.portableOf(0, 0), 1);
        x.frames(1);
        due.is("fails of a new one", x.bearer(0, 3), 1);
        due.is("bearers ever made", x.count(4), 2);
    }

    private static void cellsThatAreNotThereYet() {
        due.about("step 1, cells that are not there yet");
        CordlessHouse x = Houses.two();
        x.reach(0, 14);
        x.dial(0, 1);
        x.frames(20);
        due.is("bearers ever made", x.count(4), 0);
        x.cell(50);
        x.frames(4);
        due.is("the later one's", x.bearer(0, 1), 1);
        x = Houses.two();
        x.cell(1);
        x.cell(1);
        x.cell(1);
        x.reach(0, 14);
        x.dial(0, 1);
        x.frames(20);
        due.is("no beacon of the four is heard", x.count(4), 0);
    }

    private static void laterOnesSeeNewBearers() {
        due.about("step 1, one after the other");
        CordlessHouse x = Houses.many(8);
        x.dial(0, 1);
        x.dial(4, 1);
        x.frames(4);
        due.is("bearers", x.count(3), 2);
        due.is("of 0", x.bearer(0, 2), 10);
        due.is("of 4", x.bearer(1, 2), 20);
        due.is("both good", x.bearer(0, 4) + x.bearer(1, 4), 2);
    }

    /** Portable 1 with cell 1 and portable 0 with cell 0 on channel 33, where alone is no noise. */
    private static void sharesAChannelWhereNothingElseIs() {
        due.about("steps 1 and 2, a shared channel");
        CordlessHouse x = new CordlessHouse();
        x.cell(0);
        x.cell(5);
        x.reach(0, 1);
        x.reach(1, 2);
        for (int p = 0; p < 4; p++) {
            x.portable(p, 5);
            x.enter(p, 5);
        }
        Houses.noiseBut(x, 16, 33);
        Houses.noiseBut(x, 17, 33);
        x.dial(1, 2);
        x.frames(1);
        due.is("channel of 1", x.bearer(0, 2), 33);
        x.dial(0, 3);
        x.frames(3);
        due.is("channel of 0", x.bearer(1, 2), 33);
        due.is("far from each other: good", x.bearer(0, 4), 1);
        due.is("far from each other: good", x.bearer(1, 4), 1);
        x.reach(1, 3);
        x.frames(1);
        due.is("1 has two cells there", x.bearer(0, 4), 0);
        due.is("cell 0 has two portables", x.bearer(1, 4), 0);
        x.reach(0, 2);
        x.reach(1, 2);
        x.frames(1);
        due.is("cell 1 has two portables", x.bearer(0, 4), 0);
        due.is("cell 0 does not reach 0", x.bearer(1, 4), 0);
        due.is("fails of 0", x.bearer(1, 3), 2);
        x.reach(0, 1);
        x.frames(1);
        due.is("good again", x.bearer(0, 4), 1);
        due.is("fails of 0", x.bearer(1, 3), 0);
        due.about("step 1, a level below 4 will do");
        x.hang(0);
        x.reach(1, 3);
        due.is("level", x.level(0, 0, 33), 1);
        x.dial(0, 3);
        x.frames(4);
        due.is("channel of 0", x.bearer(1, 2), 33);
    }

    /** All eight with one cell: each in its own slot, in the order of its TIME. */
    private static void fullCell() {
        due.about("step 1, one bearer in a slot");
        CordlessHouse x = Houses.many(8);
        for (int p = 0; p < 8; p++) {
            x.dial(p, (p + 1) % 8);
        }
        x.frames(1);
        due.is("1 and 5", x.count(3), 2);
        x.frames(1);
        due.is("1 found 2 busy", x.portableOf(1, 0), 0);
        due.is("2 and 6 as well", x.count(4), 4);
        x = Houses.many(8);
        for (int p = 0; p < 8; p += 2) {
            x.dial(p, p + 1);
        }
        x.frames(16);
        due.is("eight bearers", x.count(3), 8);
        int slots = 0;
        for (int i = 0; i < 8; i++) {
            slots |= 1 << x.bearer(i, 2) / 10;
        }
        due.is("eight slots", Integer.bitCount(slots), 8);
        due.is("none in the beacon's", slots & 1, 0);
    }

    private static void failsAndHandsOver() {
        due.about("steps 2 and 3, fails");
        CordlessHouse x = Houses.talking();
        x.noise(0, 0, true);
        x.noise(16, 10, true);
        for (int i = 1; i <= 7; i++) {
            x.frames(1);
            due.is("fails", x.bearer(0, 3), i);
            due.is("good", x.bearer(0, 4), 0);
            due.is("hands over", x.portableOf(0, 4), i >= 3 ? 1 : 0);
            due.is("state", x.portableOf(0, 0), 7);
        }
        x.noise(16, 10, false);
        x.frames(1);
        due.is("fails", x.bearer(0, 3), 0);
        due.is("hands over no more", x.portableOf(0, 4), 0);
        due.is("bearers ever made", x.count(4), 2);
    }

    private static void noiseAtAnyCell() {
        due.about("step 2, noise at each cell");
        for (int c = 0; c < 4; c++) {
            CordlessHouse x = new CordlessHouse();
            for (int beacon = 0; beacon < 4; beacon++) {
                x.cell(beacon);
            }
            x.reach(0, 1 << c);
            x.portable(0, 5);
            x.portable(1, 5);
            x.enter(0, 5);
            x.enter(1, 5);
            x.dial(0, 1);
            x.frames(4);
            due.is("cell", x.bearer(0, 1), c);
            for (int where = 1; where < 20; where++) {
                x.noise(where, 10, where != 16 + c);
            }
            x.frames(1);
            due.is("noise elsewhere", x.bearer(0, 4), 1);
            x.noise(16 + c, 10, true);
            x.frames(1);
            due.is("noise at its cell", x.bearer(0, 4), 0);
        }
    }

    private static void prefersAnotherCell() {
        due.about("steps 1 and 3, to another cell");
        CordlessHouse x = Houses.talking();
        x.cell(15);
        x.reach(0, 3);
        x.noise(0, 10, true);
        x.frames(5);
        due.is("not yet, TIME is 15", x.count(4), 2);
        x.frames(1);
        due.is("of 1, now the first", x.bearer(0, 0), 1);
        due.is("cell", x.bearer(1, 1), 1);
        due.is("on 0 there is a beacon, so 1", x.bearer(1, 2), 1);
        due.is("handovers", x.count(7), 1);
        due.is("bearers", x.count(3), 2);
        due.is("state", x.portableOf(0, 0), 7);
        x.noise(0, 0, true);
        x.noise(0, 1, true);
        x.frames(4);
        due.is("once more", x.count(7), 2);
        due.is("the other beacon is not heard: its own cell", x.bearer(1, 1), 1);
        due.is("slot 0 has its old bearer, slot 1 the beacon, 20 that of 1", x.bearer(1, 2), 21);
    }

    private static void handsOverToItsOwnCell() {
        due.about("steps 1 and 3, to its own cell");
        CordlessHouse x = Houses.talking();
        x.noise(0, 10, true);
        x.frames(6);
        due.is("handovers", x.count(7), 1);
        due.is("cell", x.bearer(1, 1), 0);
        due.is("slots 1 and 2 are taken", x.bearer(1, 2), 30);
        due.is("hands over", x.portableOf(0, 4), 0);
        due.is("bearers ever made", x.count(4), 3);
    }

    private static void handsOverNowhere() {
        due.about("steps 1 and 3, no beacon is heard");
        CordlessHouse x = Houses.talking();
        x.go(0, 9);
        x.frames(7);
        due.is("hands over", x.portableOf(0, 4), 1);
        due.is("state", x.portableOf(0, 0), 7);
        due.is("bearers ever made", x.count(4), 2);
        x.frames(1);
        due.is("state", x.portableOf(0, 0), 0);
        due.is("state of the partner", x.portableOf(1, 0), 0);
        due.is("bearers", x.count(3), 0);
        due.is("calls that ended", x.count(6), 1);
    }

    private static void firstGoesOnlyForAGoodSecond() {
        due.about("step 3, a disturbed second one");
        CordlessHouse x = secondIsDisturbed();
        due.is("two bearers", x.portableOf(0, 3), 2);
        due.is("two bearers: it does not hand over", x.portableOf(0, 4), 0);
        due.is("handovers", x.count(7), 0);
        due.is("fails of the first", x.bearer(0, 3), 6);
        due.is("fails of the second", x.bearer(3, 3), 1);
        x.frames(1);
        due.is("fails of the first", x.bearer(0, 3), 7);
        x.noise(0, 10, false);
        x.frames(1);
        due.is("the first one is good again", x.bearer(0, 4), 1);
        due.is("but there are two", x.portableOf(0, 3), 2);
        x.frames(4);
        due.is("fails of the second", x.bearer(3, 3), 7);
        x.frames(1);
        due.is("the second one is no more", x.portableOf(0, 3), 1);
        due.is("the first one stays", x.bearer(0, 2), 10);
        due.is("handovers", x.count(7), 0);
    }

    /**
     * Portable 0 (cell 0, place 0) must take channel 33, on which portable 2 has a bearer with
     * cell 1 at place 3, which cell 0 reaches by then. TIME is 16.
     */
    private static CordlessHouse secondIsDisturbed() {
        CordlessHouse x = Houses.talking();
        x.cell(5);
        x.reach(3, 2);
        x.portable(3, 5);
        x.portable(9, 5);
        x.enter(2, 5);
        x.enter(3, 5);
        Houses.noiseBut(x, 16, 33);
        Houses.noiseBut(x, 17, 33);
        x.noise(16, 10, false);
        x.noise(16, 20, false);
        x.noise(0, 10, true);
        x.dial(2, 3);
        x.frames(5);
        x.reach(3, 3);
        x.frames(1);
        return x;
    }

    private static void firstThatFailedIsNoHandover() {
        due.about("step 3, the first one failed 8 times");
        CordlessHouse x = Houses.talking();
        x.frames(3);
        x.noise(0, 0, true);
        x.noise(0, 10, true);
        x.frames(6);
        due.is("TIME", x.count(0), 19);
        due.is("fails", x.bearer(0, 3), 6);
        x.frames(1);
        x.noise(0, 0, false);
        due.is("fails", x.bearer(0, 3), 7);
        x.frames(1);
        due.is("TIME 21 is not its time: the call ended", x.portableOf(0, 0), 0);
        x = Houses.talking();
        x.frames(2);
        x.noise(0, 0, true);
        x.noise(0, 10, true);
        x.frames(7);
        x.noise(0, 0, false);
        due.is("fails", x.bearer(0, 3), 7);
        x.frames(1);
        due.is("TIME", x.count(0), 20);
        due.is("state", x.portableOf(0, 0), 7);
        due.is("bearers", x.portableOf(0, 3), 1);
        due.is("handovers", x.count(7), 0);
        due.is("bearers ever made", x.count(4), 3);
    }

    private static void allHaveTwoBearers() {
        due.about("steps 1 to 3, 16 bearers");
        CordlessHouse x = Houses.sixteenBearers();
        due.is("bearers", x.count(3), 16);
        for (int p = 0; p < 8; p++) {
            due.is("bearers of " + p, x.portableOf(p, 3), 2);
            due.is("fails of a first one", x.bearer(p, 3), 7);
        }
        due.is("the latest one", x.bearer(15, 0), 5);
        due.is("no more", x.bearer(16, 0), -9);
        x.frames(1);
        due.is("bearers", x.count(3), 8);
        due.is("bearers ever made", x.count(4), 16);
        due.is("handovers", x.count(7), 0);
        x.frames(1);
        for (int i = 0; i < 8; i++) {
            due.is("good", x.bearer(i, 4), 1);
            due.is("cell", x.bearer(i, 1), i < 6 ? 1 : 0);
        }
        due.is("3 handed over back, at TIME 19", x.bearer(6, 0), 3);
        due.is("and 7", x.bearer(7, 0), 7);
        due.is("handovers", x.count(7), 2);
        due.is("calls that ended", x.count(6), 0);
    }

    private static void bearersThatAreNoMore() {
        due.about("a call's bearers are no more");
        CordlessHouse x = Houses.ringing();
        due.is("level", x.level(1, 0, 10), 1);
        x.hang(0);
        due.is("level", x.level(1, 0, 10), 0);
        x.dial(0, 1);
        x.frames(1);
        due.is("TIME 11: still calling", x.portableOf(0, 0), 1);
        x.frames(1);
        due.is("TIME 12: proving", x.portableOf(0, 0), 2);
        due.is("on the same channel", x.bearer(0, 2), 10);
    }

    private static void callerKeepsTrying() {
        due.about("step 3, a caller whose bearer is never good");
        CordlessHouse x = Houses.two();
        x.dial(0, 1);
        x.frames(3);
        Houses.noiseBut(x, 16, 33);
        x.frames(1);
        due.is("on 33", x.bearer(0, 2), 33);
        due.is("proving", x.portableOf(0, 0), 2);
        x = Houses.many(3);
        x.cell(5);
        x.reach(1, 2);
        x.go(1, 1);
        Houses.noiseBut(x, 16, 33);
        Houses.noiseBut(x, 17, 33);
        x.dial(1, 2);
        x.frames(1);
        x.reach(1, 3);
        x.dial(0, 2);
        x.frames(3);
        due.is("not good", x.bearer(1, 4), 0);
        due.is("still calling", x.portableOf(0, 0), 1);
        x.frames(3);
        due.is("hands over", x.portableOf(0, 4), 1);
        x.frames(4);
        due.is("the only channel's slot is taken", x.portableOf(0, 3), 0);
        due.is("still calling", x.portableOf(0, 0), 1);
        int made = x.count(4);
        x.frames(1);
        due.is("a new one at TIME 12", x.count(4), made + 1);
    }

    private static void lostBearerEndsCall() {
        due.about("step 3, without a bearer");
        CordlessHouse x = Houses.ringing();
        x.go(1, 9);
        x.frames(8);
        due.is("state of 0", x.portableOf(0, 0), 0);
        due.is("state of 1", x.portableOf(1, 0), 0);
        due.is("calls that ended", x.count(6), 1);
    }

    private static void stepsOfACall() {
        due.about("step 4");
        CordlessHouse x = Houses.two();
        x.dial(0, 1);
        int[] caller = {1, 1, 1, 2, 3, 3, 3, 3, 3, 3, 3};
        int[] called = {0, 0, 0, 0, 4, 4, 4, 4, 5, 6, 6};
        for (int i = 0; i < caller.length; i++) {
            x.frames(1);
            due.is("state of 0 at " + (i + 1), x.portableOf(0, 0), caller[i]);
            due.is("state of 1 at " + (i + 1), x.portableOf(1, 0), called[i]);
            due.is("partner of 1", x.portableOf(1, 2), called[i] == 0 ? -9 : 0);
        }
        due.about("step 4, without a good bearer");
        x = Houses.two();
        x.dial(0, 1);
        x.frames(4);
        x.noise(0, 10, true);
        x.frames(2);
        due.is("still proving", x.portableOf(0, 0), 2);
        x.noise(0, 10, false);
        x.frames(1);
        due.is("waiting", x.portableOf(0, 0), 3);
    }

    private static void wrongKeyOfCaller() {
        due.about("step 4, the caller is not proven");
        CordlessHouse x = Houses.two();
        x.enter(0, Houses.KEY0 + 1);
        x.dial(0, 1);
        x.frames(4);
        due.is("proving", x.portableOf(0, 0), 2);
        x.frames(1);
        due.is("idle", x.portableOf(0, 0), 0);
        due.is("the other one was not paged", x.portableOf(1, 0), 0);
        due.is("bearers", x.count(3), 0);
        due.is("calls that ended", x.count(6), 1);
    }

    private static void wrongKeyOfCalled() {
        due.about("step 4, the called one is not proven");
        CordlessHouse x = Houses.two();
        x.enter(1, Houses.KEY1 + 1);
        x.dial(0, 1);
        x.frames(9);
        due.is("proving, paged", x.portableOf(1, 0), 5);
        x.frames(1);
        due.is("state of 1", x.portableOf(1, 0), 0);
        due.is("state of 0", x.portableOf(0, 0), 0);
        due.is("bearers", x.count(3), 0);
        due.is("calls that ended", x.count(6), 1);
    }

    private static void busyPartner() {
        due.about("step 4, the partner is not idle");
        CordlessHouse x = Houses.many(3);
        x.dial(0, 1);
        x.frames(10);
        x.answer(1);
        x.dial(2, 1);
        x.frames(4);
        due.is("proving at TIME 14", x.portableOf(2, 0), 2);
        x.frames(1);
        due.is("state of 2", x.portableOf(2, 0), 0);
        due.is("state of 0", x.portableOf(0, 0), 7);
        due.is("state of 1", x.portableOf(1, 0), 7);
        due.is("calls that ended", x.count(6), 1);
        due.is("bearers", x.count(3), 2);
    }

    private static void dialEachOther() {
        due.about("step 4, two that dial each other");
        CordlessHouse x = Houses.many(2);
        x.dial(0, 1);
        x.dial(1, 0);
        x.frames(1);
        due.is("1 is proving", x.portableOf(1, 0), 2);
        x.frames(1);
        due.is("1 found 0 busy", x.portableOf(1, 0), 0);
        due.is("0 still calls", x.portableOf(0, 0), 1);
        x.frames(3);
        due.is("0 waits", x.portableOf(0, 0), 3);
        due.is("1 is paged", x.portableOf(1, 0), 4);
        due.is("calls that ended", x.count(6), 1);
    }

    private static void longWait() {
        due.about("step 6, calling");
        CordlessHouse x = Houses.two();
        x.reach(0, 0);
        x.frames(7);
        x.dial(0, 1);
        x.frames(200);
        due.is("frames", x.portableOf(0, 9), 200);
        due.is("state", x.portableOf(0, 0), 1);
        x.frames(1);
        due.is("state", x.portableOf(0, 0), 0);
        due.is("frames", x.portableOf(0, 9), 0);
        due.is("calls that ended", x.count(6), 1);
    }

    private static void longRinging() {
        due.about("step 6, ringing");
        CordlessHouse x = Houses.ringing();
        x.frames(190);
        due.is("frames of 0", x.portableOf(0, 9), 200);
        due.is("frames of 1", x.portableOf(1, 9), 195);
        due.is("state of 0", x.portableOf(0, 0), 3);
        x.frames(1);
        due.is("state of 0", x.portableOf(0, 0), 0);
        due.is("state of 1", x.portableOf(1, 0), 0);
        due.is("calls that ended", x.count(6), 1);
        due.about("step 6, active");
        x = Houses.talking();
        x.frames(500);
        due.is("state", x.portableOf(0, 0), 7);
    }

    private static void voiceNeedsGoodBearers() {
        due.about("step 5, bearers that are not good");
        CordlessHouse x = Houses.talking();
        x.say(0, 50);
        x.noise(0, 10, true);
        x.frames(2);
        due.is("it waits to go up", x.portableOf(0, 5), 1);
        due.is("none went up", x.count(8), 0);
        x.noise(0, 10, false);
        x.noise(1, 20, true);
        due.is("none is heard", x.frames(2), 0);
        due.is("one went up", x.count(8), 1);
        due.is("it waits for 1", x.portableOf(1, 6), 1);
        due.is("nothing on air downward", x.air(1), 0);
        x.noise(1, 20, false);
        due.is("one is heard", x.frames(1), 1);
        due.is("it waits no more", x.portableOf(1, 6), 0);
        due.is("heard(1, 0)", x.heard(1, 0), 50);
    }

    private static void voiceWaitsAFrame() {
        due.about("step 5, a block that has come in this frame");
        CordlessHouse x = Houses.talking();
        x.say(0, 1);
        x.say(1, 2);
        due.is("none yet", x.frames(1), 0);
        due.is("waits for 0", x.portableOf(0, 6), 1);
        due.is("waits for 1", x.portableOf(1, 6), 1);
        due.is("both", x.frames(1), 2);
        x.say(0, 3);
        x.say(0, 4);
        x.say(0, 5);
        due.is("none", x.frames(1), 0);
        due.is("one", x.frames(1), 1);
        due.is("one waits", x.portableOf(1, 6), 1);
        due.is("two", x.frames(10), 2);
    }

    /** Portable 1 is good in every eighth frame alone, and hears no beacon to hand over. */
    private static void exchangeHoldsSixteen() {
        due.about("step 5, 16 wait at most");
        CordlessHouse x = Houses.talking();
        x.noise(1, 0, true);
        int block = 0;
        for (int round = 0; round < 2; round++) {
            x.noise(1, 20, true);
            for (int i = 0; i < 7; i++) {
                x.say(0, ++block);
                x.frames(1);
            }
            x.noise(1, 20, false);
            x.say(0, ++block);
            due.is("one of them", x.frames(1), 1);
        }
        due.is("wait", x.portableOf(1, 6), 14);
        x.noise(1, 20, true);
        for (int i = 0; i < 3; i++) {
            x.say(0, ++block);
            x.frames(1);
            due.is("wait", x.portableOf(1, 6), i == 0 ? 15 : 16);
        }
        due.is("block", block, 19);
        due.is("went up", x.count(8), 19);
        due.is("on air, though lost", x.air(0), 19 ^ x.mix(Houses.KEY0, x.count(0)));
        x.noise(1, 20, false);
        x.say(0, ++block);
        due.is("one", x.frames(1), 1);
        due.is("20 came before that one went: lost", x.portableOf(1, 6), 15);
        x.say(0, ++block);
        due.is("the rest", x.frames(20), 16);
        for (int i = 0; i < 18; i++) {
            due.is("heard(1, " + i + ")", x.heard(1, i), i + 1);
        }
        due.is("heard(1, 18)", x.heard(1, 18), 21);
        due.is("in all", x.portableOf(1, 7), 19);
    }

    private static void newCallHasNoOldVoice() {
        due.about("step 5, after a call that ended");
        CordlessHouse x = Houses.talking();
        x.say(0, 1);
        x.say(0, 2);
        x.frames(1);
        x.hang(1);
        x.dial(0, 1);
        x.frames(12);
        due.is("answer", x.answer(1), 1);
        due.is("nothing is heard", x.frames(5), 0);
        due.is("went up", x.count(8), 1);
    }
}
