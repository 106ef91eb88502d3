import java.util.ArrayDeque;
import java.util.ArrayList;
import java.util.HashSet;
import java.util.List;
import java.util.Set;

/**
 * The document written down a second time, in its own order and with nothing but lists and
 * loops, to compare CordlessHouse with.
 */
final class PlainHouse {
    private static final class Phone {
        int number;
        int place;
        long key;
        Long exchangeKey;
        int state;
        Phone partner;
        int since;
        boolean provingAsFrameBegan;
        final ArrayDeque<Long> says = new ArrayDeque<>();
        final ArrayDeque<long[]> waits = new ArrayDeque<>();
        final List<Long> heard = new ArrayList<>();
    }

    private static final class Link {
        Phone phone;
        int cell;
        int channel;
        int fails;
        boolean good;
    }

    private final List<Integer> beacons = new ArrayList<>();
    private final List<Phone> phones = new ArrayList<>();
    private final List<Link> links = new ArrayList<>();
    private final List<Set<Integer>> reach = new ArrayList<>();
    private final Set<List<Integer>> noise = new HashSet<>();
    private final int[] refused = new int[7];
    private int time;
    private int linksEver;
    private int active;
    private int ended;
    private int handovers;
    private int up;
    private int heardNow;
    private long airUp;
    private long airDown;

    PlainHouse() {
        for (int i = 0; i < 16; i++) {
            reach.add(new HashSet<>());
        }
    }

    private int no(int why) {
        refused[-why]++;
        return why;
    }

    private static boolean within(int n, int end) {
        return 0 <= n && n < end;
    }

    private boolean isPhone(int p) {
        return within(p, phones.size());
    }

    private boolean isCell(int c) {
        return within(c, beacons.size());
    }

    int cell(int channel) {
        if (!within(channel, 120)) {
            return no(-1);
        }
        if (beacons.size() == 4) {
            return no(-6);
        }
        beacons.add(channel);
        return beacons.size() - 1;
    }

    int portable(int place, long key) {
        if (!within(place, 16)) {
            return no(-1);
        }
        if (phones.size() == 8) {
            return no(-6);
        }
        Phone it = new Phone();
        it.number = phones.size();
        it.place = place;
        it.key = key;
        phones.add(it);
        return it.number;
    }

    int reach(int place, int cells) {
        if (!within(place, 16)) {
            return no(-1);
        }
        if (cells < 0) {
            return no(-4);
        }
        if (cells > 15) {
            return no(-6);
        }
        int was = 0;
        for (int c : reach.get(place)) {
            was += 1 << c;
        }
        reach.get(place).clear();
        for (int c = 0; c < 4; c++) {
            if ((cells >> c) % 2 == 1) {
                reach.get(place).add(c);
            }
        }
        return was;
    }

    boolean noise(int where, int channel, boolean on) {
        if (!within(channel, 120) || !within(where, 16 + beacons.size())) {
            return false;
        }
        return on ? noise.add(List.of(where, channel)) : noise.remove(List.of(where, channel));
    }

    int go(int p, int place) {
        if (!isPhone(p) || !within(place, 16)) {
            return no(-1);
        }
        int was = phones.get(p).place;
        phones.get(p).place = place;
        return was;
    }

    int enter(int p, long key) {
        if (!isPhone(p)) {
            return no(-1);
        }
        if (phones.get(p).state != 0) {
            return no(-2);
        }
        phones.get(p).exchangeKey = key;
        return 1;
    }

    int dial(int p, int q) {
        if (!isPhone(p) || !isPhone(q) || p == q) {
            return no(-1);
        }
        Phone it = phones.get(p);
        if (it.state != 0) {
            return no(-2);
        }
        if (it.exchangeKey == null || phones.get(q).exchangeKey == null) {
            return no(-3);
        }
        it.state = 1;
        it.partner = phones.get(q);
        it.since = time;
        return 1;
    }

    int answer(int p) {
        if (!isPhone(p)) {
            return no(-1);
        }
        if (phones.get(p).state != 6) {
            return no(-2);
        }
        phones.get(p).state = 7;
        phones.get(p).partner.state = 7;
        active++;
        return 1;
    }

    int hang(int p) {
        if (!isPhone(p)) {
            return no(-1);
        }
        if (phones.get(p).state == 0) {
            return no(-2);
        }
        end(phones.get(p));
        return 1;
    }

    int say(int p, long block) {
        if (!isPhone(p)) {
            return no(-1);
        }
        Phone it = phones.get(p);
        if (it.state != 7) {
            return no(-2);
        }
        if (it.says.size() == 8) {
            return no(-6);
        }
        it.says.add(block);
        return it.says.size();
    }

    int frames(int n) {
        if (n < 1) {
            return no(-4);
        }
        if (n > 1000 || time + n > 100000) {
            return no(-6);
        }
        heardNow = 0;
        for (int i = 0; i < n; i++) {
            frame();
        }
        return heardNow;
    }

    long heard(int p, int i) {
        if (!isPhone(p)) {
            return 0;
        }
        List<Long> all = phones.get(p).heard;
        List<Long> latest = all.subList(Math.max(0, all.size() - 20), all.size());
        return within(i, latest.size()) ? latest.get(i) : 0;
    }

    int portableOf(int p, int what) {
        if (!isPhone(p) || !within(what, 10)) {
            return -9;
        }
        Phone it = phones.get(p);
        int[] answers = {
            it.state, it.place, it.partner == null ? -9 : it.partner.number, linksOf(it).size(),
            handsOver(it) ? 1 : 0, it.says.size(), it.waits.size(), it.heard.size(),
            it.exchangeKey != null ? 1 : 0, it.state == 0 || it.state == 7 ? 0 : time - it.since};
        return answers[what];
    }

    int bearer(int i, int what) {
        if (!within(i, links.size()) || !within(what, 5)) {
            return -9;
        }
        Link it = links.get(i);
        int[] answers = {it.phone.number, it.cell, it.channel, it.fails, it.good ? 1 : 0};
        return answers[what];
    }

    int level(int p, int cell, int channel) {
        if (!isPhone(p) || !isCell(cell) || !within(channel, 120)) {
            return no(-1);
        }
        return levelFor(phones.get(p), cell, channel);
    }

    boolean beacon(int cell, int place) {
        return isCell(cell) && within(place, 16) && heardAt(place, cell, beacons.get(cell));
    }

    long mix(long key, long n) {
        long x = key ^ (n * 7046029254386353131L);
        for (int i = 0; i < 2; i++) {
            x = (x ^ (x >>> 29)) * -4658895280553007687L;
        }
        return x;
    }

    long air(int what) {
        return what == 0 ? airUp : what == 1 ? airDown : 0;
    }

    int count(int what) {
        int[] answers = {time, beacons.size(), phones.size(), links.size(), linksEver, active, ended,
            handovers, up, -9, -9, refused[1], refused[2], refused[3], refused[4], refused[5],
            refused[6]};
        return within(what, answers.length) ? answers[what] : -9;
    }

    private List<Link> linksOf(Phone it) {
        List<Link> own = new ArrayList<>();
        for (Link link : links) {
            if (link.phone == it) {
                own.add(link);
            }
        }
        return own;
    }

    private boolean handsOver(Phone it) {
        List<Link> own = linksOf(it);
        return own.size() == 1 && own.get(0).fails >= 3;
    }

    private boolean hasGood(Phone it) {
        for (Link link : linksOf(it)) {
            if (link.good) {
                return true;
            }
        }
        return false;
    }

    private boolean sends(int cell, int channel) {
        if (beacons.get(cell) == channel) {
            return true;
        }
        for (Link link : links) {
            if (link.cell == cell && link.channel == channel) {
                return true;
            }
        }
        return false;
    }

    private int otherCells(int place, int cell, int channel) {
        int n = 0;
        for (int c = 0; c < beacons.size(); c++) {
            if (c != cell && reach.get(place).contains(c) && sends(c, channel)) {
                n++;
            }
        }
        return n;
    }

    private int otherPhones(Phone it, int cell, int channel) {
        int n = 0;
        for (Phone other : phones) {
            boolean on = false;
            for (Link link : linksOf(other)) {
                on |= link.channel == channel;
            }
            if (other != it && on && reach.get(other.place).contains(cell)) {
                n++;
            }
        }
        return n;
    }

    private boolean heardAt(int place, int cell, int channel) {
        return reach.get(place).contains(cell) && !noise.contains(List.of(place, channel))
                && otherCells(place, cell, channel) == 0;
    }

    private boolean heardBy(int cell, Phone it, int channel) {
        return reach.get(it.place).contains(cell) && !noise.contains(List.of(16 + cell, channel))
                && otherPhones(it, cell, channel) == 0;
    }

    private int levelFor(Phone it, int cell, int channel) {
        return (noise.contains(List.of(it.place, channel)) ? 4 : 0)
                + (noise.contains(List.of(16 + cell, channel)) ? 4 : 0)
                + otherCells(it.place, cell, channel) + otherPhones(it, cell, channel);
    }

    private void frame() {
        time++;
        for (Phone it : phones) {
            it.provingAsFrameBegan = it.state == 2 || it.state == 5;
        }
        for (Phone it : phones) {
            boolean seeks = (it.state == 1 || it.state == 4) && linksOf(it).isEmpty();
            if ((seeks || handsOver(it)) && Math.floorMod(time - it.number, 4) == 0) {
                setUp(it);
            }
        }
        for (Link link : links) {
            link.good = heardAt(link.phone.place, link.cell, link.channel)
                    && heardBy(link.cell, link.phone, link.channel);
            link.fails = link.good ? 0 : link.fails + 1;
        }
        links.removeIf(link -> link.fails == 8);
        for (Phone it : phones) {
            List<Link> own = linksOf(it);
            if (own.size() == 2 && own.get(1).good) {
                links.remove(own.get(0));
                handovers++;
            }
        }
        for (Phone it : phones) {
            if (it.state != 0 && it.state != 1 && it.state != 4 && linksOf(it).isEmpty()) {
                end(it);
            }
        }
        calls();
        voice();
        for (Phone it : phones) {
            if (it.state >= 1 && it.state <= 6 && time - it.since > 200) {
                end(it);
            }
        }
    }

    private void setUp(Phone it) {
        List<Integer> cells = new ArrayList<>();
        for (int c = 0; c < beacons.size(); c++) {
            if (heardAt(it.place, c, beacons.get(c))) {
                cells.add(c);
            }
        }
        if (!linksOf(it).isEmpty()) {
            Integer own = linksOf(it).get(0).cell;
            if (!cells.equals(List.of(own))) {
                cells.remove(own);
            }
        }
        if (cells.isEmpty()) {
            return;
        }
        int cell = cells.get(0);
        int best = -1;
        int bestLevel = 4;
        for (int channel = 0; channel < 120; channel++) {
            boolean free = beacons.get(cell) / 10 != channel / 10;
            for (Link link : links) {
                free &= link.channel / 10 != channel / 10 || link.cell != cell && link.phone != it;
            }
            if (free && levelFor(it, cell, channel) < bestLevel) {
                best = channel;
                bestLevel = levelFor(it, cell, channel);
            }
        }
        if (best >= 0) {
            Link link = new Link();
            link.phone = it;
            link.cell = cell;
            link.channel = best;
            links.add(link);
            linksEver++;
        }
    }

    private void calls() {
        for (Phone it : phones) {
            if (!hasGood(it)) {
                continue;
            }
            if (it.state == 1 || it.state == 4) {
                it.state++;
            } else if ((it.state == 2 || it.state == 5) && it.provingAsFrameBegan) {
                if (mix(it.key, time) != mix(it.exchangeKey, time)) {
                    end(it);
                } else if (it.state == 5) {
                    it.state = 6;
                } else {
                    it.state = 3;
                    if (it.partner.state == 0 && it.partner.exchangeKey != null) {
                        it.partner.state = 4;
                        it.partner.partner = it;
                        it.partner.since = time;
                    } else {
                        end(it);
                    }
                }
            }
        }
    }

    private void voice() {
        for (Phone it : phones) {
            if (it.state == 7 && hasGood(it) && !it.says.isEmpty()) {
                airUp = it.says.remove() ^ mix(it.key, time);
                up++;
                if (it.partner.waits.size() < 16) {
                    it.partner.waits.add(new long[] {airUp ^ mix(it.exchangeKey, time), time});
                }
            }
        }
        for (Phone it : phones) {
            if (it.state == 7 && hasGood(it) && !it.waits.isEmpty() && it.waits.peek()[1] < time) {
                airDown = it.waits.remove()[0] ^ mix(it.exchangeKey, time + 1000000);
                it.heard.add(airDown ^ mix(it.key, time + 1000000));
                heardNow++;
            }
        }
    }

    private void end(Phone it) {
        Phone other = it.partner;
        if (other.partner == it) {
            boolean calls = it.state <= 3 && other.state >= 4 && other.state <= 6;
            boolean called = other.state >= 1 && other.state <= 3 && it.state >= 4 && it.state <= 6;
            if (calls || called || it.state == 7 && other.state == 7) {
                idle(other);
            }
        }
        idle(it);
        ended++;
    }

    private void idle(Phone it) {
        it.state = 0;
        it.partner = null;
        it.says.clear();
        it.waits.clear();
        links.removeAll(linksOf(it));
    }
}
