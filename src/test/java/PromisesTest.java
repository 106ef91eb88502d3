/** Each call of the face, promise by promise: ordinary inputs, edges, and wrong inputs. */
public final class PromisesTest {
    private static final Due due = new Due();
    private static final int LEAST = Integer.MIN_VALUE;
    private static final int MOST = Integer.MAX_VALUE;

    public static void main(String[] args) {
        newObject();
        cell();
        portable();
        reach();
        noise();
        go();
        enter();
        dial();
        answer();
        hang();
        hangTouchesOnlyItsOwnCall();
        say();
        frames();
        heard();
        portableOf();
        bearer();
        level();
        beacon();
        mix();
        air();
        count();
        refusalsCounted();
        due.end();
    }

    private static void newObject() {
        due.about("promise 1");
        CordlessHouse x = new CordlessHouse();
        for (int what = 0; what <= 8; what++) {
            due.is("count(" + what + ")", x.count(what), 0);
        }
        for (int what = 11; what <= 16; what++) {
            due.is("count(" + what + ")", x.count(what), 0);
        }
        due.is("portableOf(0, 0)", x.portableOf(0, 0), -9);
        due.is("bearer(0, 0)", x.bearer(0, 0), -9);
        due.is("heard(0, 0)", x.heard(0, 0), 0);
        due.is("beacon(0, 0)", x.beacon(0, 0), false);
        due.is("noise(16, 0, true)", x.noise(16, 0, true), false);
        for (int place = 0; place < 16; place++) {
            due.is("reach(" + place + ", 0)", x.reach(place, 0), 0);
            due.is("noise(" + place + ", 0, false)", x.noise(place, 0, false), false);
        }
    }

    private static void cell() {
        due.about("promise 2");
        CordlessHouse x = new CordlessHouse();
        due.is("cell(-1)", x.cell(-1), -1);
        due.is("cell(120)", x.cell(120), -1);
        due.is("cell(least)", x.cell(LEAST), -1);
        due.is("cell(most)", x.cell(MOST), -1);
        due.is("cell(0)", x.cell(0), 0);
        due.is("cell(119)", x.cell(119), 1);
        due.is("cell(119) again", x.cell(119), 2);
        due.is("cell(7)", x.cell(7), 3);
        due.is("cell(8), the fifth", x.cell(8), -6);
        due.is("cell(120), the fifth", x.cell(120), -1);
        due.is("count(1)", x.count(1), 4);
        x.reach(3, 8);
        due.is("beacon(3, 3)", x.beacon(3, 3), true);
        x.noise(3, 7, true);
        due.is("beacon(3, 3) with noise on 7", x.beacon(3, 3), false);
    }

    private static void portable() {
        due.about("promise 3");
        CordlessHouse x = new CordlessHouse();
        due.is("portable(-1)", x.portable(-1, 1), -1);
        due.is("portable(16)", x.portable(16, 1), -1);
        due.is("portable(least)", x.portable(LEAST, 1), -1);
        for (int p = 0; p < 8; p++) {
            due.is("portable " + p, x.portable(15 - p, 1), p);
            due.is("its state", x.portableOf(p, 0), 0);
            due.is("its place", x.portableOf(p, 1), 15 - p);
            due.is("its partner", x.portableOf(p, 2), -9);
            due.is("is it entered", x.portableOf(p, 8), 0);
        }
        due.is("the ninth", x.portable(0, 1), -6);
        due.is("the ninth, nowhere", x.portable(16, 1), -1);
        due.is("count(2)", x.count(2), 8);
    }

    private static void reach() {
        due.about("promise 4");
        CordlessHouse x = new CordlessHouse();
        due.is("reach(0, 15)", x.reach(0, 15), 0);
        due.is("reach(0, 16)", x.reach(0, 16), -6);
        due.is("reach(0, most)", x.reach(0, MOST), -6);
        due.is("reach(0, -1)", x.reach(0, -1), -4);
        due.is("reach(0, least)", x.reach(0, LEAST), -4);
        due.is("reach(0, 2)", x.reach(0, 2), 15);
        due.is("reach(0, 2)", x.reach(0, 2), 2);
        due.is("reach(15, 8)", x.reach(15, 8), 0);
        due.is("reach(15, 0)", x.reach(15, 0), 8);
        due.is("reach(16, 16)", x.reach(16, 16), -1);
        due.is("reach(-1, -1)", x.reach(-1, -1), -1);
        x.cell(0);
        x.cell(1);
        due.is("beacon(0, 0)", x.beacon(0, 0), false);
        due.is("beacon(1, 0) of a later cell", x.beacon(1, 0), true);
    }

    private static void noise() {
        due.about("promise 5");
        CordlessHouse x = new CordlessHouse();
        x.cell(0);
        x.portable(15, 1);
        due.is("on at 15", x.noise(15, 119, true), true);
        due.is("on again", x.noise(15, 119, true), false);
        due.is("level", x.level(0, 0, 119), 4);
        due.is("off at 15", x.noise(15, 119, false), true);
        due.is("off again", x.noise(15, 119, false), false);
        due.is("level", x.level(0, 0, 119), 0);
        due.is("on at cell 0", x.noise(16, 0, true), true);
        due.is("level", x.level(0, 0, 0), 4);
        due.is("no such cell", x.noise(17, 0, true), false);
        due.is("no such place", x.noise(-1, 0, true), false);
        due.is("least", x.noise(LEAST, 0, true), false);
        due.is("no such channel", x.noise(0, 120, true), false);
        due.is("channel -1", x.noise(0, -1, true), false);
        due.is("no more cells than 4", x.noise(20, 0, true), false);
        x.cell(5);
        due.is("on at cell 1", x.noise(17, 0, true), true);
        due.is("count(11)", x.count(11), 0);
    }

    private static void go() {
        due.about("promise 6");
        CordlessHouse x = new CordlessHouse();
        x.portable(3, 1);
        due.is("go(0, 15)", x.go(0, 15), 3);
        due.is("go(0, 15)", x.go(0, 15), 15);
        due.is("go(0, 0)", x.go(0, 0), 15);
        due.is("place", x.portableOf(0, 1), 0);
        due.is("go(0, 16)", x.go(0, 16), -1);
        due.is("go(0, -1)", x.go(0, -1), -1);
        due.is("go(1, 0)", x.go(1, 0), -1);
        due.is("go(-1, 0)", x.go(-1, 0), -1);
        due.is("place", x.portableOf(0, 1), 0);
        due.is("count(11)", x.count(11), 4);
    }

    private static void enter() {
        due.about("promise 7");
        CordlessHouse x = Houses.many(2);
        CordlessHouse y = new CordlessHouse();
        y.portable(0, 1);
        due.is("not entered yet", y.portableOf(0, 8), 0);
        due.is("enter", y.enter(0, 2), 1);
        due.is("entered", y.portableOf(0, 8), 1);
        due.is("enter again", y.enter(0, 3), 1);
        due.is("no such one", y.enter(1, 3), -1);
        due.is("below 0", y.enter(-1, 3), -1);
        x.dial(0, 1);
        due.is("calling", x.enter(0, 6), -2);
        due.is("it is called, but idle", x.enter(1, 5), 1);
        x.frames(5);
        due.is("paged", x.enter(1, 5), -2);
    }

    private static void dial() {
        due.about("promise 8");
        CordlessHouse x = new CordlessHouse();
        x.portable(0, 1);
        x.portable(0, 2);
        x.portable(0, 3);
        due.is("itself", x.dial(0, 0), -1);
        due.is("nobody calls", x.dial(3, 0), -1);
        due.is("nobody is called", x.dial(0, 3), -1);
        due.is("below 0", x.dial(0, -1), -1);
        due.is("neither is entered", x.dial(0, 1), -3);
        x.enter(0, 1);
        due.is("the other is not entered", x.dial(0, 1), -3);
        due.is("it is not entered", x.dial(1, 0), -3);
        x.enter(1, 2);
        due.is("dial", x.dial(0, 1), 1);
        due.is("state", x.portableOf(0, 0), 1);
        due.is("partner", x.portableOf(0, 2), 1);
        due.is("the other's state", x.portableOf(1, 0), 0);
        due.is("not idle, before not entered", x.dial(0, 2), -2);
        due.is("itself, before not idle", x.dial(0, 0), -1);
        due.is("one that calls may be called", x.dial(1, 0), 1);
        due.is("count(11)", x.count(11), 5);
        due.is("count(12)", x.count(12), 1);
        due.is("count(13)", x.count(13), 3);
    }

    private static void answer() {
        due.about("promise 9");
        CordlessHouse x = Houses.two();
        due.is("idle", x.answer(1), -2);
        x.dial(0, 1);
        due.is("calling", x.answer(0), -2);
        x.frames(4);
        due.is("proving", x.answer(0), -2);
        x.frames(1);
        due.is("paged", x.answer(1), -2);
        due.is("waiting", x.answer(0), -2);
        x.frames(4);
        due.is("proving, paged", x.answer(1), -2);
        x.frames(1);
        due.is("count(5)", x.count(5), 0);
        due.is("ringing", x.answer(1), 1);
        due.is("state", x.portableOf(0, 0), 7);
        due.is("state", x.portableOf(1, 0), 7);
        due.is("count(5)", x.count(5), 1);
        due.is("active", x.answer(1), -2);
        due.is("nobody", x.answer(2), -1);
        due.is("below 0", x.answer(-1), -1);
    }

    private static void hang() {
        due.about("promise 10");
        for (int frames = 0; frames <= 12; frames++) {
            for (int p = 0; p < 2; p++) {
                CordlessHouse x = Houses.two();
                x.dial(0, 1);
                if (frames > 0) {
                    x.frames(frames);
                }
                if (frames >= 10) {
                    x.answer(1);
                    x.say(0, 4);
                    x.say(1, 4);
                    x.frames(1);
                    x.say(0, 4);
                    x.say(1, 4);
                }
                boolean idle = p == 1 && frames < 5;
                due.is("hang(" + p + ") after " + frames, x.hang(p), idle ? -2 : 1);
                due.is("count(6)", x.count(6), idle ? 0 : 1);
                for (int q = 0; q < 2 && !idle; q++) {
                    due.is("state", x.portableOf(q, 0), 0);
                    due.is("partner", x.portableOf(q, 2), -9);
                    due.is("bearers", x.portableOf(q, 3), 0);
                    due.is("waits to go up", x.portableOf(q, 5), 0);
                    due.is("waits for it", x.portableOf(q, 6), 0);
                    due.is("frames", x.portableOf(q, 9), 0);
                }
                due.is("count(3)", x.count(3), idle && frames == 4 ? 1 : 0);
            }
        }
        CordlessHouse x = Houses.two();
        due.is("nobody", x.hang(2), -1);
        due.is("below 0", x.hang(-1), -1);
    }

    private static void hangTouchesOnlyItsOwnCall() {
        due.about("promise 10, two that dial each other");
        CordlessHouse x = Houses.two();
        x.dial(0, 1);
        x.dial(1, 0);
        due.is("hang(0)", x.hang(0), 1);
        due.is("state of 1", x.portableOf(1, 0), 1);
        due.is("count(6)", x.count(6), 1);
        due.about("promise 10, one that dials one that talks");
        x = Houses.many(3);
        x.dial(0, 1);
        x.frames(10);
        x.answer(1);
        x.dial(2, 1);
        due.is("hang(2)", x.hang(2), 1);
        due.is("state of 0", x.portableOf(0, 0), 7);
        due.is("state of 1", x.portableOf(1, 0), 7);
        x.dial(2, 1);
        due.is("hang(1)", x.hang(1), 1);
        due.is("state of 0", x.portableOf(0, 0), 0);
        due.is("state of 2", x.portableOf(2, 0), 1);
        due.is("count(6)", x.count(6), 2);
    }

    private static void say() {
        due.about("promise 11");
        CordlessHouse x = Houses.ringing();
        due.is("ringing", x.say(1, 9), -2);
        due.is("waiting", x.say(0, 9), -2);
        x.answer(1);
        for (int i = 1; i <= 8; i++) {
            due.is("block " + i, x.say(0, i), i);
        }
        due.is("block 9", x.say(0, 9), -6);
        due.is("waits", x.portableOf(0, 5), 8);
        due.is("the other one's first", x.say(1, 70), 1);
        x.frames(1);
        due.is("one went up", x.say(0, 9), 8);
        due.is("nobody", x.say(2, 1), -1);
        due.is("below 0", x.say(-1, 1), -1);
        x.frames(9);
        for (int i = 0; i < 9; i++) {
            due.is("heard(1, " + i + ")", x.heard(1, i), i + 1);
        }
        due.is("heard(0, 0)", x.heard(0, 0), 70);
        due.is("count(16)", x.count(16), 1);
    }

    private static void frames() {
        due.about("promise 12");
        CordlessHouse x = new CordlessHouse();
        due.is("0", x.frames(0), -4);
        due.is("-1", x.frames(-1), -4);
        due.is("least", x.frames(LEAST), -4);
        due.is("1001", x.frames(1001), -6);
        due.is("most", x.frames(MOST), -6);
        due.is("TIME", x.count(0), 0);
        for (int i = 1; i <= 99; i++) {
            x.frames(1000);
        }
        due.is("999", x.frames(999), 0);
        due.is("beyond the last TIME", x.frames(2), -6);
        due.is("TIME", x.count(0), 99999);
        due.is("the last one", x.frames(1), 0);
        due.is("TIME", x.count(0), 100000);
        due.is("one more", x.frames(1), -6);
        due.is("0", x.frames(0), -4);
        due.is("count(14)", x.count(14), 4);
        due.is("count(16)", x.count(16), 4);
    }

    private static void heard() {
        due.about("promise 13");
        CordlessHouse x = Houses.talking();
        due.is("none yet", x.heard(1, 0), 0);
        for (int i = 1; i <= 20; i++) {
            x.say(0, i);
            x.frames(1);
        }
        due.is("19 went down", x.portableOf(1, 7), 19);
        due.is("none at 19", x.heard(1, 19), 0);
        x.frames(1);
        due.is("the eldest", x.heard(1, 0), 1);
        due.is("the latest", x.heard(1, 19), 20);
        due.is("none at 20", x.heard(1, 20), 0);
        due.is("none at -1", x.heard(1, -1), 0);
        due.is("none at most", x.heard(1, MOST), 0);
        x.say(0, 21);
        x.say(0, 22);
        due.is("in them", x.frames(3), 2);
        due.is("the eldest", x.heard(1, 0), 3);
        due.is("the latest", x.heard(1, 19), 22);
        due.is("none at 20", x.heard(1, 20), 0);
        due.is("in all", x.portableOf(1, 7), 22);
        x.hang(0);
        due.is("kept after the call", x.heard(1, 19), 22);
        due.is("nobody", x.heard(2, 0), 0);
        due.is("below 0", x.heard(-1, 0), 0);
    }

    private static void portableOf() {
        due.about("promise 14");
        CordlessHouse x = Houses.ringing();
        int[] caller = {3, 0, 1, 1, 0, 0, 0, 0, 1, 10, -9};
        int[] called = {6, 1, 0, 1, 0, 0, 0, 0, 1, 5, -9};
        for (int what = 0; what <= 10; what++) {
            due.is("(0, " + what + ")", x.portableOf(0, what), caller[what]);
            due.is("(1, " + what + ")", x.portableOf(1, what), called[what]);
        }
        x.answer(1);
        due.is("active: frames", x.portableOf(0, 9), 0);
        due.is("active: frames", x.portableOf(1, 9), 0);
        x.say(0, 1);
        x.say(0, 2);
        x.say(0, 3);
        x.frames(1);
        due.is("waits to go up", x.portableOf(0, 5), 2);
        due.is("waits for the other", x.portableOf(1, 6), 1);
        due.is("waits for it", x.portableOf(0, 6), 0);
        due.is("heard", x.portableOf(1, 7), 0);
        x.frames(3);
        due.is("heard", x.portableOf(1, 7), 3);
        due.is("no such what", x.portableOf(0, -1), -9);
        due.is("most", x.portableOf(0, MOST), -9);
        due.is("nobody", x.portableOf(2, 0), -9);
        due.is("below 0", x.portableOf(-1, 0), -9);
        due.is("no refusals", x.count(11), 0);
    }

    private static void bearer() {
        due.about("promise 15");
        CordlessHouse x = Houses.ringing();
        int[] first = {0, 0, 10, 0, 1, -9};
        int[] second = {1, 0, 20, 0, 1, -9};
        for (int what = 0; what <= 5; what++) {
            due.is("(0, " + what + ")", x.bearer(0, what), first[what]);
            due.is("(1, " + what + ")", x.bearer(1, what), second[what]);
            due.is("(2, " + what + ")", x.bearer(2, what), -9);
        }
        due.is("(0, -1)", x.bearer(0, -1), -9);
        due.is("(-1, 0)", x.bearer(-1, 0), -9);
        due.is("(most, 0)", x.bearer(MOST, 0), -9);
        x.noise(0, 10, true);
        x.frames(2);
        due.is("fails", x.bearer(0, 3), 2);
        due.is("good", x.bearer(0, 4), 0);
        due.is("the other one's fails", x.bearer(1, 3), 0);
        x.noise(0, 10, false);
        due.is("good in the latest frame still", x.bearer(0, 4), 0);
        x.frames(1);
        due.is("fails", x.bearer(0, 3), 0);
        due.is("good", x.bearer(0, 4), 1);
        due.is("no refusals", x.count(11), 0);
    }

    private static void level() {
        due.about("promise 16");
        CordlessHouse x = new CordlessHouse();
        x.cell(0);
        x.cell(0);
        x.cell(0);
        x.cell(11);
        x.portable(2, 1);
        due.is("nobody reaches it", x.level(0, 0, 0), 0);
        x.reach(2, 7);
        due.is("two others", x.level(0, 0, 0), 2);
        due.is("three others", x.level(0, 3, 0), 3);
        x.noise(2, 0, true);
        due.is("noise there", x.level(0, 0, 0), 6);
        x.noise(16, 0, true);
        due.is("noise at the cell", x.level(0, 0, 0), 10);
        due.is("noise at another cell", x.level(0, 1, 0), 6);
        due.is("a free one", x.level(0, 0, 119), 0);
        due.is("nobody", x.level(1, 0, 0), -1);
        due.is("no such cell", x.level(0, 4, 0), -1);
        due.is("no such channel", x.level(0, 0, 120), -1);
        due.is("below 0", x.level(0, 0, -1), -1);
        due.is("below 0", x.level(0, -1, 0), -1);
        due.is("below 0", x.level(-1, 0, 0), -1);
        due.is("count(11)", x.count(11), 6);
        due.about("promise 16, with bearers");
        x = Houses.ringing();
        x.cell(5);
        due.is("its own bearer", x.level(0, 0, 10), 0);
        due.is("another one's", x.level(1, 0, 10), 1);
        due.is("cell 1 reaches nobody", x.level(1, 1, 10), 1);
        x.reach(0, 3);
        due.is("cell 1 reaches 0 too", x.level(1, 1, 10), 2);
        due.is("for 0: only that cell 0 sends", x.level(0, 1, 10), 1);
    }

    private static void beacon() {
        due.about("promise 17");
        CordlessHouse x = new CordlessHouse();
        x.cell(30);
        x.cell(30);
        x.reach(4, 1);
        x.reach(5, 3);
        due.is("reached", x.beacon(0, 4), true);
        due.is("not reached", x.beacon(1, 4), false);
        due.is("two of them", x.beacon(0, 5), false);
        due.is("two of them", x.beacon(1, 5), false);
        x.noise(16, 30, true);
        due.is("noise at the cell", x.beacon(0, 4), true);
        x.noise(4, 31, true);
        due.is("noise on another channel", x.beacon(0, 4), true);
        x.noise(4, 30, true);
        due.is("noise at the place", x.beacon(0, 4), false);
        due.is("no such cell", x.beacon(2, 4), false);
        due.is("below 0", x.beacon(-1, 4), false);
        due.is("no such place", x.beacon(0, 16), false);
        due.is("below 0", x.beacon(0, -1), false);
        due.is("no refusals", x.count(11), 0);
        due.about("promise 17, a bearer on the beacon's channel");
        x = Houses.ringing();
        x.cell(10);
        x.reach(0, 3);
        x.reach(3, 2);
        due.is("where both reach", x.beacon(1, 0), false);
        due.is("where one reaches", x.beacon(1, 3), true);
        x.hang(0);
        due.is("without the bearer", x.beacon(1, 0), true);
    }

    private static void mix() {
        due.about("promise 18");
        CordlessHouse x = new CordlessHouse();
        due.is("mix(0, 0)", x.mix(0, 0), 0);
        due.is("mix(77, 5)", x.mix(77, 5), -9012675468855198296L);
        due.is("mix(0, 1)", x.mix(0, 1), -9103875313780345379L);
        due.is("mix(1, 2)", x.mix(1, 2), 420864797488670810L);
        due.is("mix(-1, -1)", x.mix(-1, -1), 1548831848246283551L);
        due.is("mix(-1, 0)", x.mix(-1, 0), 7495050130410705856L);
    }

    private static void air() {
        due.about("promise 19");
        CordlessHouse x = Houses.talking();
        due.is("up, none", x.air(0), 0);
        due.is("down, none", x.air(1), 0);
        x.say(0, 1000);
        x.say(1, 2000);
        x.frames(1);
        due.is("up, the latest is of 1", x.air(0), 2000 ^ x.mix(Houses.KEY1, 11));
        due.is("down, none", x.air(1), 0);
        x.say(0, 3000);
        x.frames(1);
        due.is("up, of 0", x.air(0), 3000 ^ x.mix(Houses.KEY0, 12));
        due.is("down, the latest is to 1", x.air(1), 1000 ^ x.mix(Houses.KEY1, 1000012));
        x.frames(5);
        due.is("up, as it was", x.air(0), 3000 ^ x.mix(Houses.KEY0, 12));
        due.is("down, to 1", x.air(1), 3000 ^ x.mix(Houses.KEY1, 1000013));
        x.hang(1);
        due.is("down, after the call", x.air(1), 3000 ^ x.mix(Houses.KEY1, 1000013));
        due.is("air(2)", x.air(2), 0);
        due.is("air(-1)", x.air(-1), 0);
    }

    private static void count() {
        due.about("promise 20");
        CordlessHouse x = Houses.talking();
        x.say(0, 1);
        x.say(0, 2);
        x.say(1, 3);
        x.frames(1);
        int[] want = {11, 1, 2, 2, 2, 1, 0, 0, 2, -9, -9, 0, 0, 0, 0, 0, 0, -9};
        for (int what = 0; what < want.length; what++) {
            due.is("count(" + what + ")", x.count(what), want[what]);
        }
        x.hang(0);
        x.dial(1, 0);
        x.frames(20);
        due.is("bearers", x.count(3), 2);
        due.is("bearers ever made", x.count(4), 4);
        due.is("calls that became active", x.count(5), 1);
        due.is("calls that ended", x.count(6), 1);
        due.is("count(-1)", x.count(-1), -9);
        due.is("count(least)", x.count(LEAST), -9);
        due.is("count(most)", x.count(MOST), -9);
    }

    private static void refusalsCounted() {
        due.about("promise 20, refusals");
        CordlessHouse x = Houses.two();
        int refused = 0;
        refused += x.cell(120) == -1 ? 1 : 0;
        refused += x.portable(16, 0) == -1 ? 1 : 0;
        refused += x.reach(16, 0) == -1 ? 1 : 0;
        refused += x.go(9, 0) == -1 ? 1 : 0;
        refused += x.enter(9, 0) == -1 ? 1 : 0;
        refused += x.dial(9, 0) == -1 ? 1 : 0;
        refused += x.answer(9) == -1 ? 1 : 0;
        refused += x.hang(9) == -1 ? 1 : 0;
        refused += x.say(9, 0) == -1 ? 1 : 0;
        refused += x.level(9, 0, 0) == -1 ? 1 : 0;
        due.is("each refused", refused, 10);
        due.is("count(11)", x.count(11), 10);
        x.answer(0);
        x.hang(0);
        x.say(0, 0);
        x.dial(0, 1);
        x.dial(0, 1);
        x.enter(0, 0);
        due.is("count(12)", x.count(12), 5);
        x.reach(0, -1);
        x.frames(0);
        due.is("count(14)", x.count(14), 2);
        due.is("count(15)", x.count(15), 0);
        x.reach(0, 16);
        x.frames(1001);
        due.is("count(16)", x.count(16), 2);
        due.is("count(11)", x.count(11), 10);
    }
}
