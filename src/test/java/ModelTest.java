import java.util.Random;

/** Random runs of calls, the same each time, on CordlessHouse and on PlainHouse at once. */
public final class ModelTest {
    private static final int RUNS = 600;
    private static final int CALLS = 260;
    private static final Due due = new Due();

    private final Random random;
    private final CordlessHouse x = new CordlessHouse();
    private final PlainHouse y = new PlainHouse();

    private ModelTest(int seed) {
        random = new Random(seed);
    }

    public static void main(String[] args) {
        int[] seen = new int[9];
        for (int seed = 0; seed < RUNS; seed++) {
            due.about("run " + seed);
            ModelTest run = new ModelTest(seed);
            run.furnish();
            for (int i = 0; i < CALLS; i++) {
                run.call();
                run.compare();
            }
            for (int what = 4; what <= 8; what++) {
                seen[what] += run.x.count(what);
            }
        }
        System.out.println(seen[4] + " bearers, " + seen[5] + " active calls, " + seen[6] + " ended, "
                + seen[7] + " handovers, " + seen[8] + " blocks up");
        for (int what = 4; what <= 8; what++) {
            due.is("enough of what count(" + what + ") tells", seen[what] > RUNS, true);
        }
        due.end();
    }

    private int one(int end) {
        return random.nextInt(end);
    }

    private boolean rarely(int n) {
        return random.nextInt(n) == 0;
    }

    private int channel() {
        if (rarely(60)) {
            return one(200) - 40;
        }
        if (rarely(2) && x.count(3) > 0) {
            return x.bearer(one(x.count(3)), 2);
        }
        return rarely(3) ? one(120) : one(6) * 10 + one(2);
    }

    private int phone() {
        return rarely(60) ? one(14) - 3 : one(Math.max(1, x.count(2)));
    }

    private int place() {
        return rarely(60) ? one(22) - 3 : one(4);
    }

    private void addCell() {
        int channel = channel();
        due.is("cell(" + channel + ")", x.cell(channel), y.cell(channel));
    }

    private void addPhone() {
        int place = place();
        long key = one(3);
        int p = x.portable(place, key);
        due.is("portable(" + place + ")", p, y.portable(place, key));
        if (!rarely(8)) {
            enter(p, rarely(12) ? key + 1 : key);
        }
    }

    private void enter(int p, long key) {
        due.is("enter(" + p + ")", x.enter(p, key), y.enter(p, key));
    }

    private void reach() {
        int place = place();
        int cells = rarely(40) ? one(40) - 10 : rarely(3) ? one(16) : 15;
        due.is("reach(" + place + ", " + cells + ")", x.reach(place, cells), y.reach(place, cells));
    }

    private void noise(int where, int channel, boolean on) {
        due.is("noise(" + where + ", " + channel + ")", x.noise(where, channel, on),
                y.noise(where, channel, on));
    }

    /** Few channels without noise make portables meet on one channel. */
    private void flood(int where) {
        int stride = 7 + one(40);
        for (int channel = 0; channel < 120; channel++) {
            if (channel % stride != 3) {
                noise(where, channel, true);
            }
        }
    }

    private void furnish() {
        for (int i = one(4); i >= 0; i--) {
            addCell();
        }
        for (int place = 0; place < 4; place++) {
            reach();
        }
        for (int i = 2 + one(7); i > 0; i--) {
            addPhone();
        }
        if (rarely(2)) {
            for (int c = 0; c < x.count(1); c++) {
                flood(16 + c);
            }
        }
        if (rarely(30)) {
            due.is("frames(1000)", x.frames(1000), y.frames(1000));
        }
    }

    private void call() {
        int p = phone();
        switch (one(20)) {
            case 0: reach(); break;
            case 1: noise(rarely(2) ? 16 + one(5) : place(), channel(), rarely(2)); break;
            case 2: go(p); break;
            case 3: dial(p); break;
            case 4: dial(p); break;
            case 5: dial(p); break;
            case 6: answerAll(); break;
            case 7: hangSometimes(p); break;
            case 8: say(p); break;
            case 9: say(p); break;
            case 10: sayAll(); break;
            case 11: mend(); break;
            case 12: rare(p); break;
            default: frames(); break;
        }
    }

    private void rare(int p) {
        switch (one(4)) {
            case 0: addCell(); break;
            case 1: addPhone(); break;
            case 2: enter(p, one(3)); break;
            default: due.is("answer(" + p + ")", x.answer(p), y.answer(p)); break;
        }
    }

    private void go(int p) {
        int place = place();
        due.is("go(" + p + ", " + place + ")", x.go(p, place), y.go(p, place));
    }

    private void dial(int p) {
        int q = phone();
        due.is("dial(" + p + ", " + q + ")", x.dial(p, q), y.dial(p, q));
    }

    private void answerAll() {
        for (int p = 0; p < x.count(2); p++) {
            due.is("answer(" + p + ")", x.answer(p), y.answer(p));
        }
    }

    private void hangSometimes(int p) {
        if (rarely(4)) {
            due.is("hang(" + p + ")", x.hang(p), y.hang(p));
        }
    }

    private void say(int p) {
        long block = random.nextLong();
        due.is("say(" + p + ")", x.say(p, block), y.say(p, block));
    }

    private void sayAll() {
        for (int i = 0; i < 5; i++) {
            for (int p = 0; p < x.count(2); p++) {
                say(p);
            }
        }
    }

    /** Takes noise off the bearers, so that calls go on often enough. */
    private void mend() {
        for (int i = 0; i < x.count(3); i++) {
            int channel = x.bearer(i, 2);
            noise(x.portableOf(x.bearer(i, 0), 1), channel, false);
            noise(16 + x.bearer(i, 1), channel, false);
        }
    }

    private void frames() {
        int n = rarely(80) ? 190 + one(20) : rarely(60) ? one(3) - 1 : 1 + one(5);
        due.is("frames(" + n + ")", x.frames(n), y.frames(n));
    }

    private void compare() {
        for (int what = -1; what < 18; what++) {
            due.is("count(" + what + ")", x.count(what), y.count(what));
        }
        for (int p = -1; p <= x.count(2); p++) {
            for (int what = -1; what <= 10; what++) {
                due.is("portableOf(" + p + ", " + what + ")", x.portableOf(p, what),
                        y.portableOf(p, what));
            }
            for (int i = -1; i <= 20; i++) {
                due.is("heard(" + p + ", " + i + ")", x.heard(p, i), y.heard(p, i));
            }
        }
        for (int i = -1; i <= x.count(3); i++) {
            for (int what = -1; what <= 5; what++) {
                due.is("bearer(" + i + ", " + what + ")", x.bearer(i, what), y.bearer(i, what));
            }
        }
        compareAir();
    }

    private void compareAir() {
        for (int what = -1; what <= 2; what++) {
            due.is("air(" + what + ")", x.air(what), y.air(what));
        }
        for (int c = -1; c <= x.count(1); c++) {
            for (int place = -1; place <= 4; place++) {
                due.is("beacon(" + c + ", " + place + ")", x.beacon(c, place), y.beacon(c, place));
            }
            int p = phone();
            int channel = channel();
            due.is("level(" + p + ", " + c + ", " + channel + ")", x.level(p, c, channel),
                    y.level(p, c, channel));
        }
        long key = random.nextLong();
        long n = random.nextLong();
        due.is("mix", x.mix(key, n), y.mix(key, n));
    }
}
