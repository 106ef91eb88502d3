/** Houses that several tests begin with. */
final class Houses {
    static final long KEY0 = 77;
    static final long KEY1 = 88;

    private Houses() {
    }

    /** One cell (beacon 0) that reaches the places 0 and 1, with portable 0 and 1 there, entered. */
    static CordlessHouse two() {
        CordlessHouse x = new CordlessHouse();
        x.cell(0);
        x.reach(0, 1);
        x.reach(1, 1);
        x.portable(0, KEY0);
        x.portable(1, KEY1);
        x.enter(0, KEY0);
        x.enter(1, KEY1);
        return x;
    }

    /** TIME is 10; portable 0 has bearer 0 on channel 10, portable 1 bearer 1 on channel 20. */
    static CordlessHouse ringing() {
        CordlessHouse x = two();
        x.dial(0, 1);
        x.frames(10);
        return x;
    }

    static CordlessHouse talking() {
        CordlessHouse x = ringing();
        x.answer(1);
        return x;
    }

    /** Portables 0 .. n - 1 at place 0, which cell 0 (beacon 0) reaches, all entered with key 5. */
    static CordlessHouse many(int n) {
        CordlessHouse x = new CordlessHouse();
        x.cell(0);
        x.reach(0, 1);
        for (int p = 0; p < n; p++) {
            x.portable(0, 5);
            x.enter(p, 5);
        }
        return x;
    }

    /** Noise at a place (or a cell: 16 and its number) on all channels but one. */
    static void noiseBut(CordlessHouse x, int where, int channel) {
        for (int c = 0; c < 120; c++) {
            if (c != channel) {
                x.noise(where, c, true);
            }
        }
    }
}
