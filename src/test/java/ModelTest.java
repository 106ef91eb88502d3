import java.util.Random;

/**
 * Random runs of calls, the same each time, on CordlessHouse and on PlainHouse at once. Each run
 * has the 512 calls that an object is used for; what to call next is asked of PlainHouse alone.
 */
public final class ModelTest {
    private static final int RUNS = 12000;
    private static final int CALLS = 512;
    private static final int LAST_LOOKS = 150;
    private static final int[] FAR = {Integer.MIN_VALUE, -1000, 32, 64, 1000, Integer.MAX_VALUE - 200};
    private static final Due due = new Due();

    private final Random random;
    private final CordlessHouse x = new CordlessHouse();
    private final PlainHouse y = new PlainHouse();
    private int calls;

    private ModelTest(int seed) {
        random = new Random(seed);
    }

    public static void main(String[] args) {
        int[] seen = new int[9];
        for (int seed = 0; seed < RUNS; seed++) {
            due.about("run " + seed);
            ModelTest run = new ModelTest(seed);
            run.furnish();
            while (run.calls < CALLS - LAST_LOOKS) {
                run.act();
                run.look();
            }
            while (run.calls < CALLS) {
                run.look();
            }
            for (int what = 4; what <= 8; what++) {
                seen[what] += run.y.count(what);
            }
        }
        System.out.println(seen[4] + " bearers, " + seen[5] + " active calls, " + seen[6] + " ended, "
                + seen[7] + " handovers, " + seen[8] + " blocks up");
        for (int what = 4; what <= 8; what++) {
            due.is("enough of what count(" + what + ") tells", seen[what] > RUNS / 2, true);
        }
        due.end();
    }

    private void same(String call, long got, long want) {
        calls++;
        due.is(call, got, want);
    }

    private void same(String call, boolean got, boolean want) {
        same(call, got ? 1L : 0L, want ? 1L : 0L);
    }

    private int one(int end) {
        return random.nextInt(end);
    }

    private boolean rarely(int n) {
        return random.nextInt(n) == 0;
    }

    /** Any number: near what may be, or far from it. */
    private int odd(int end) {
        return rarely(2) ? one(end + 6) - 3 : FAR[one(FAR.length)] + one(end);
    }

    private int channel() {
        if (rarely(60)) {
            return odd(120);
        }
        if (rarely(2) && y.count(3) > 0) {
            return y.bearer(one(y.count(3)), 2);
        }
        return rarely(3) ? one(120) : one(6) * 10 + one(2);
    }

    private int phone() {
        return rarely(60) ? odd(8) : one(Math.max(1, y.count(2)));
    }

    private int place() {
        return rarely(60) ? odd(16) : one(4);
    }

    private int cell() {
        return rarely(20) ? odd(4) : one(Math.max(1, y.count(1)));
    }

    // ---- The house ----

    private void furnish() {
        for (int i = one(4); i >= 0; i--) {
            addCell();
        }
        for (int place = 0; place < 4; place++) {
            reach();
        }
        for (int i = 2 + one(7); i > 0; i--) {
            addPhone();
        }
        if (rarely(2)) {
            flood(16 + one(4));
        }
        if (rarely(30)) {
            frames(1000);
        }
    }

    private void addCell() {
        int channel = channel();
        same("cell(" + channel + ")", x.cell(channel), y.cell(channel));
    }

    private void addPhone() {
        int place = place();
        long key = one(3);
        int p = y.portable(place, key);
        same("portable(" + place + ")", x.portable(place, key), p);
        if (!rarely(8)) {
            enter(p, rarely(12) ? key + 1 : key);
        }
    }

    private void enter(int p, long key) {
        same("enter(" + p + ")", x.enter(p, key), y.enter(p, key));
    }

    private void reach() {
        int place = place();
        int cells = rarely(40) ? odd(16) : rarely(3) ? one(16) : 15;
        same("reach(" + place + ", " + cells + ")", x.reach(place, cells), y.reach(place, cells));
    }

    private void noise(int where, int channel, boolean on) {
        same("noise(" + where + ", " + channel + ")", x.noise(where, channel, on),
                y.noise(where, channel, on));
    }

    /** Few channels without noise make portables meet on one channel. */
    private void flood(int where) {
        int stride = 7 + one(40);
        for (int channel = 0; channel < 120; channel++) {
            if (channel % stride != 3) {
                noise(where, channel, true);
            }
        }
    }

    // ---- Acts ----

    private void act() {
        int p = phone();
        switch (one(20)) {
            case 0: reach(); break;
            case 1: noise(rarely(2) ? 16 + cell() : place(), channel(), rarely(2)); break;
            case 2: go(p); break;
            case 3: dial(p); break;
            case 4: dial(p); break;
            case 5: dial(p); break;
            case 6: answerAll(); break;
            case 7: hangSometimes(p); break;
            case 8: say(p); break;
            case 9: sayAll(); break;
            case 10: mend(); break;
            case 11: rare(p); break;
            default: frames(rarely(80) ? 190 + one(20) : rarely(60) ? odd(3) : 1 + one(5)); break;
        }
    }

    private void rare(int p) {
        switch (one(4)) {
            case 0: addCell(); break;
            case 1: addPhone(); break;
            case 2: enter(p, one(3)); break;
            default: answer(p); break;
        }
    }

    private void go(int p) {
        int place = place();
        same("go(" + p + ", " + place + ")", x.go(p, place), y.go(p, place));
    }

    private void dial(int p) {
        int q = phone();
        same("dial(" + p + ", " + q + ")", x.dial(p, q), y.dial(p, q));
    }

    private void answer(int p) {
        same("answer(" + p + ")", x.answer(p), y.answer(p));
    }

    private void answerAll() {
        for (int p = 0; p < y.count(2); p++) {
            if (y.portableOf(p, 0) == 6) {
                answer(p);
            }
        }
    }

    private void hangSometimes(int p) {
        if (rarely(4)) {
            same("hang(" + p + ")", x.hang(p), y.hang(p));
        }
    }

    private void say(int p) {
        long block = random.nextLong();
        same("say(" + p + ")", x.say(p, block), y.say(p, block));
    }

    private void sayAll() {
        for (int p = 0; p < y.count(2); p++) {
            for (int i = 1 + one(9); i > 0 && y.portableOf(p, 0) == 7; i--) {
                say(p);
            }
        }
    }

    /** Takes noise off the bearers, so that calls go on often enough. */
    private void mend() {
        for (int i = 0; i < y.count(3); i++) {
            int channel = y.bearer(i, 2);
            noise(y.portableOf(y.bearer(i, 0), 1), channel, false);
            noise(16 + y.bearer(i, 1), channel, false);
        }
    }

    private void frames(int n) {
        same("frames(" + n + ")", x.frames(n), y.frames(n));
    }

    // ---- Looks ----

    private void look() {
        int p = phone();
        switch (one(16)) {
            case 0: lookAtHeard(p, rarely(9) ? odd(20) : one(20)); break;
            case 1: lookAtHeard(p, 0); break;
            case 2: lookAtBeacon(cell(), place()); break;
            case 3: lookAtLevel(p, cell(), channel()); break;
            case 4: lookAtAir(rarely(9) ? odd(2) : one(2)); break;
            case 5: lookAtMix(random.nextLong(), random.nextLong()); break;
            case 6: lookAtBearer(); break;
            case 7: lookAtBearer(); break;
            case 8: lookAtBearer(); break;
            case 9: lookAtPhone(p, one(10)); break;
            case 10: lookAtPhone(p, rarely(9) ? odd(10) : one(10)); break;
            case 11: lookAtPhone(p, 0); break;
            default: lookAtCount(rarely(9) ? odd(17) : one(17)); break;
        }
    }

    private void lookAtHeard(int p, int i) {
        same("heard(" + p + ", " + i + ")", x.heard(p, i), y.heard(p, i));
    }

    private void lookAtBeacon(int c, int place) {
        same("beacon(" + c + ", " + place + ")", x.beacon(c, place), y.beacon(c, place));
    }

    private void lookAtLevel(int p, int c, int channel) {
        same("level(" + p + ", " + c + ", " + channel + ")", x.level(p, c, channel),
                y.level(p, c, channel));
    }

    private void lookAtAir(int what) {
        same("air(" + what + ")", x.air(what), y.air(what));
    }

    private void lookAtMix(long key, long n) {
        same("mix(" + key + ", " + n + ")", x.mix(key, n), y.mix(key, n));
    }

    private void lookAtBearer() {
        int i = rarely(9) ? odd(y.count(3) + 1) : one(y.count(3) + 1);
        int what = rarely(9) ? odd(5) : one(5);
        same("bearer(" + i + ", " + what + ")", x.bearer(i, what), y.bearer(i, what));
    }

    private void lookAtPhone(int p, int what) {
        same("portableOf(" + p + ", " + what + ")", x.portableOf(p, what), y.portableOf(p, what));
    }

    private void lookAtCount(int what) {
        same("count(" + what + ")", x.count(what), y.count(what));
    }
}
