/** Houses that several tests begin with. */
final class Houses {
    static final long KEY0 = 77;
    static final long KEY1 = 88;

    private Houses() {
    }

    /** One cell (beacon 0) that reaches the places 0 and 1, with portable 0 and 1 there, entered. */
    static CordlessHouse two() {
        CordlessHouse x = new CordlessHouse();
        x.cell(0);
        x.reach(0, 1);
        x.reach(1, 1);
        x.portable(0, KEY0);
        x.portable(1, KEY1);
        x.enter(0, KEY0);
        x.enter(1, KEY1);
        return x;
    }

    /** TIME is 10; portable 0 has bearer 0 on channel 10, portable 1 bearer 1 on channel 20. */
    static CordlessHouse ringing() {
        CordlessHouse x = two();
        x.dial(0, 1);
        x.frames(10);
        return x;
    }

    static CordlessHouse talking() {
        CordlessHouse x = ringing();
        x.answer(1);
        return x;
    }

    /** Portable whoIs(state) is in this state, 0 to 7. */
    static CordlessHouse inState(int state) {
        int[] frames = {0, 0, 4, 5, 5, 9, 10, 10};
        CordlessHouse x = two();
        if (state != 0) {
            x.dial(0, 1);
        }
        if (frames[state] > 0) {
            x.frames(frames[state]);
        }
        if (state == 7) {
            x.answer(1);
        }
        return x;
    }

    static int whoIs(int state) {
        return state >= 4 && state <= 6 ? 1 : 0;
    }

    /** Both talk, and blocks wait on both sides and were heard on both. */
    static CordlessHouse busy() {
        CordlessHouse x = talking();
        for (int i = 1; i <= 4; i++) {
            x.say(0, i);
            x.say(1, -i);
        }
        x.frames(2);
        return x;
    }

    static CordlessHouse fourCells() {
        CordlessHouse x = new CordlessHouse();
        for (int c = 0; c < 4; c++) {
            x.cell(c);
        }
        return x;
    }

    /**
     * Cells 0 to 3 (beacons 0 to 3), each reaching the place of its number alone; portables 1 to 3
     * have a bearer on channel 10 there, called ones (4 to 7) are where no cell reaches, and
     * portable 0 has not dialled. All are entered. TIME is 3.
     */
    static CordlessHouse sameChannel() {
        CordlessHouse x = fourCells();
        for (int p = 0; p < 8; p++) {
            x.portable(p < 4 ? p : 15, 5);
            x.enter(p, 5);
        }
        for (int p = 0; p < 4; p++) {
            x.reach(p, 1 << p);
        }
        for (int p = 1; p < 4; p++) {
            x.dial(p, p + 4);
        }
        x.frames(3);
        return x;
    }

    /** Portables 0 .. n - 1 at place 0, which cell 0 (beacon 0) reaches, all entered with key 5. */
    static CordlessHouse many(int n) {
        CordlessHouse x = new CordlessHouse();
        x.cell(0);
        x.reach(0, 1);
        for (int p = 0; p < n; p++) {
            x.portable(0, 5);
            x.enter(p, 5);
        }
        return x;
    }

    /**
     * Eight portables have handed over at once to cell 1, to which the only channels without noise
     * are those of their first bearers: the second ones are not good until the first ones are gone.
     * The first ones have 7 FAILS. TIME is 17.
     */
    static CordlessHouse sixteenBearers() {
        CordlessHouse x = many(8);
        x.cell(110);
        x.reach(0, 3);
        for (int p = 0; p < 8; p += 2) {
            x.dial(p, p + 1);
        }
        x.frames(10);
        noiseBut(x, 17, 110);
        for (int channel = 10; channel <= 80; channel += 10) {
            x.noise(17, channel, false);
            x.noise(16, channel, true);
        }
        x.frames(7);
        return x;
    }

    /** Noise at a place (or a cell: 16 and its number) on all channels but one. */
    static void noiseBut(CordlessHouse x, int where, int channel) {
        for (int c = 0; c < 120; c++) {
            if (c != channel) {
                x.noise(where, c, true);
            }
        }
    }
}
