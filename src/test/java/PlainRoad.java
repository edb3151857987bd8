import java.util.ArrayList;
import java.util.HashMap;
import java.util.List;
import java.util.Map;

/**
 * The document once more, as slowly and as literally as it can be written: nothing is kept that can be counted,
 * and what would be is tried out on a copy. PlainRoadTest compares Handoverhouse with it.
 */
final class PlainRoad {
    static final class Mast {
        int[] told;
        boolean awake = true;
        int carried;
    }

    static final class Handset {
        int operator;
        int place;
        int speed;
        int balance;
        boolean on = true;
        Integer camp;
        Integer register;
        Integer told;
        int when;
        int updates;
    }

    static final class Leg {
        int handset;
        int mast;
        int wait;
        int bad;
        Integer left;
        int leftWhen;
    }

    static final class Call {
        List<Leg> legs = new ArrayList<>();
        int seconds;
        int paid;
        int handovers;
        int pingPongs;
        int ended;
    }

    static final class Text {
        int to;
        boolean there;
    }

    List<Mast> masts = new ArrayList<>();
    List<Handset> handsets = new ArrayList<>();
    List<Call> calls = new ArrayList<>();
    List<Text> texts = new ArrayList<>();
    int now;
    int pages;

    PlainRoad copy() {
        PlainRoad c = new PlainRoad();
        for (Mast m : masts) {
            Mast n = new Mast();
            n.told = m.told.clone();
            n.awake = m.awake;
            n.carried = m.carried;
            c.masts.add(n);
        }
        for (Handset h : handsets) {
            Handset n = new Handset();
            n.operator = h.operator;
            n.place = h.place;
            n.speed = h.speed;
            n.balance = h.balance;
            n.on = h.on;
            n.camp = h.camp;
            n.register = h.register;
            n.told = h.told;
            n.when = h.when;
            n.updates = h.updates;
            c.handsets.add(n);
        }
        for (Call k : calls) {
            Call n = new Call();
            for (Leg l : k.legs) {
                Leg o = new Leg();
                o.handset = l.handset;
                o.mast = l.mast;
                o.wait = l.wait;
                o.bad = l.bad;
                o.left = l.left;
                o.leftWhen = l.leftWhen;
                n.legs.add(o);
            }
            n.seconds = k.seconds;
            n.paid = k.paid;
            n.handovers = k.handovers;
            n.pingPongs = k.pingPongs;
            n.ended = k.ended;
            c.calls.add(n);
        }
        for (Text t : texts) {
            Text n = new Text();
            n.to = t.to;
            n.there = t.there;
            c.texts.add(n);
        }
        c.now = now;
        c.pages = pages;
        return c;
    }

    // ---- terms

    int load(int mast) {
        int load = 0;
        for (Call c : calls) {
            for (Leg l : c.legs) {
                load += c.ended == 0 && l.mast == mast ? 1 : 0;
            }
        }
        return load;
    }

    int far(int mast, int place) {
        return Math.abs(masts.get(mast).told[0] - place);
    }

    int quality(int mast, int place) {
        Mast m = masts.get(mast);
        if (!m.awake) {
            return -99;
        }
        int noise = 0;
        for (int o = 0; o < masts.size(); o++) {
            Mast other = masts.get(o);
            if (o != mast && other.awake && other.told[2] == m.told[2] && other.told[1] > far(o, place)) {
                noise += (other.told[1] - far(o, place)) / 3;
            }
        }
        return m.told[1] - far(mast, place) - 2 * load(mast) - noise;
    }

    boolean heard(int mast, int place) {
        return quality(mast, place) >= 1;
    }

    Integer bestOf(List<Integer> several, int place) {
        Integer best = null;
        for (int m : several) {
            if (best == null || quality(m, place) > quality(best, place)) {
                best = m;
            }
        }
        return best;
    }

    List<Integer> allHeard(int place) {
        List<Integer> list = new ArrayList<>();
        for (int m = 0; m < masts.size(); m++) {
            if (heard(m, place)) {
                list.add(m);
            }
        }
        return list;
    }

    Integer callOf(int handset) {
        for (int c = 0; c < calls.size(); c++) {
            for (Leg l : calls.get(c).legs) {
                if (calls.get(c).ended == 0 && l.handset == handset) {
                    return c;
                }
            }
        }
        return null;
    }

    boolean idle(int handset) {
        return handsets.get(handset).on && callOf(handset) == null;
    }

    Integer mastOf(int handset) {
        Integer c = callOf(handset);
        if (c == null) {
            return handsets.get(handset).on ? handsets.get(handset).camp : null;
        }
        for (Leg l : calls.get(c).legs) {
            if (l.handset == handset) {
                return l.mast;
            }
        }
        throw new AssertionError();
    }

    /** The steps of paging: how many are paged, in each one, and whether it is found in it. */
    boolean page(int handset, boolean counts) {
        Integer known = handsets.get(handset).register;
        for (int step = 0; step < (known == null ? 1 : 2); step++) {
            boolean found = false;
            for (int m = 0; m < masts.size(); m++) {
                int away = known == null ? 0 : Math.abs(masts.get(m).told[4] - known);
                if (masts.get(m).awake && away == step) {
                    pages += counts ? 1 : 0;
                    found |= mastOf(handset) != null && mastOf(handset) == m;
                }
            }
            if (found) {
                return true;
            }
        }
        return false;
    }

    void end(Call call, int how) {
        for (Leg l : call.legs) {
            handsets.get(l.handset).camp = l.mast;
        }
        call.ended = how;
    }

    // ---- a second

    void second() {
        now++;
        for (Handset h : handsets) {
            h.place += h.speed;
            if (h.place < 0 || h.place > 99) {
                h.place = h.place < 0 ? 0 - h.place : 99 - (h.place - 99);
                h.speed = -h.speed;
            }
        }
        for (int i = 0; i < handsets.size(); i++) {
            if (idle(i)) {
                chooseAndTell(handsets.get(i));
            }
        }
        for (Call c : calls) {
            for (Leg l : c.legs) {
                if (c.ended == 0) {
                    look(c, l);
                }
            }
        }
        for (Call c : calls) {
            if (c.ended == 0) {
                pay(c);
            }
        }
        for (Text t : texts) {
            t.there |= mastOf(t.to) != null;
        }
    }

    private void chooseAndTell(Handset h) {
        Integer best = bestOf(allHeard(h.place), h.place);
        boolean stays = h.camp != null && heard(h.camp, h.place)
                && quality(best, h.place) < quality(h.camp, h.place) + 3;
        if (!stays) {
            h.camp = best;
        }
        if (h.camp == null) {
            return;
        }
        Integer area = masts.get(h.camp).told[4];
        if (!area.equals(h.told) || h.when <= now - 20) {
            h.register = area;
            h.told = area;
            h.when = now;
            h.updates++;
        }
    }

    private void look(Call c, Leg l) {
        int place = handsets.get(l.handset).place;
        List<Integer> others = new ArrayList<>();
        for (int m = 0; m < masts.size(); m++) {
            if (m != l.mast && masts.get(m).awake && load(m) < masts.get(m).told[3]) {
                others.add(m);
            }
        }
        Integer candidate = bestOf(others, place);
        boolean ownHeard = heard(l.mast, place);
        if (candidate != null && quality(candidate, place) >= quality(l.mast, place) + 4) {
            l.wait++;
        } else {
            l.wait = 0;
        }
        if (l.wait == 2 || !ownHeard && candidate != null && heard(candidate, place)) {
            c.handovers++;
            if (candidate.equals(l.left) && l.leftWhen >= now - 5) {
                c.pingPongs++;
            }
            l.left = l.mast;
            l.leftWhen = now;
            l.mast = candidate;
            l.wait = 0;
        } else if (!ownHeard) {
            l.bad++;
        }
        if (heard(l.mast, place)) {
            l.bad = 0;
        }
        if (l.bad == 3) {
            end(c, 2);
        }
    }

    private void pay(Call c) {
        Handset caller = handsets.get(c.legs.get(0).handset);
        int price = masts.get(c.legs.get(0).mast).told[5] == caller.operator ? 1 : 3;
        if (c.legs.size() == 1) {
            price = 0;
        }
        if (caller.balance < price) {
            end(c, 3);
            return;
        }
        caller.balance -= price;
        c.paid += price;
        c.seconds++;
        for (Leg l : c.legs) {
            masts.get(l.mast).carried++;
        }
    }

    // ---- what is told

    int mast(int... told) {
        int[] least = {0, 10, 0, 1, 0, 0};
        int[] most = {99, 60, 2, 4, 3, 1};
        for (int i = 0; i < 6; i++) {
            argument(told[i] >= least[i] && told[i] <= most[i]);
        }
        state(masts.size() < 6);
        Mast m = new Mast();
        m.told = told;
        masts.add(m);
        return masts.size() - 1;
    }

    int handset(int operator, int place, int speed, int balance) {
        argument(operator >= 0 && operator <= 1 && place >= 0 && place <= 99);
        argument(speed >= -3 && speed <= 3 && balance >= 0 && balance <= 999);
        state(handsets.size() < 8);
        Handset h = new Handset();
        h.operator = operator;
        h.place = place;
        h.speed = speed;
        h.balance = balance;
        handsets.add(h);
        return handsets.size() - 1;
    }

    int speed(int handset, int speed) {
        number(handset, handsets);
        argument(speed >= -3 && speed <= 3);
        int before = handsets.get(handset).speed;
        handsets.get(handset).speed = speed;
        return before;
    }

    int top(int handset, int money) {
        number(handset, handsets);
        argument(money >= 1 && money <= 999);
        return handsets.get(handset).balance += money;
    }

    int turn(int handset, boolean is) {
        number(handset, handsets);
        Handset h = handsets.get(handset);
        boolean was = h.on;
        if (was && !is && callOf(handset) != null) {
            end(calls.get(callOf(handset)), 1);
        }
        if (was != is) {
            h.camp = null;
        }
        h.on = is;
        return was ? 1 : 0;
    }

    int wake(int mast, boolean is) {
        number(mast, masts);
        if (load(mast) > 0 && !is) {
            return 0;
        }
        for (Handset h : handsets) {
            if (!is && h.camp != null && h.camp == mast) {
                h.camp = null;
            }
        }
        masts.get(mast).awake = is;
        return 1;
    }

    // ---- what is done

    int call(int from, int to) {
        number(from, handsets);
        number(to, handsets);
        argument(from != to);
        state(calls.size() < 24);
        if (!idle(from) || mastOf(from) == null) {
            return -2;
        }
        if (!page(to, true)) {
            return -3;
        }
        if (callOf(to) != null) {
            return -4;
        }
        Map<Integer, Integer> needed = new HashMap<>();
        needed.merge(mastOf(from), 1, Integer::sum);
        needed.merge(mastOf(to), 1, Integer::sum);
        for (int m : needed.keySet()) {
            if (masts.get(m).told[3] - load(m) < needed.get(m)) {
                return -5;
            }
        }
        if (handsets.get(from).balance < 3) {
            return -6;
        }
        Call c = new Call();
        c.legs.add(leg(from));
        c.legs.add(leg(to));
        calls.add(c);
        return calls.size() - 1;
    }

    private Leg leg(int handset) {
        Leg l = new Leg();
        l.handset = handset;
        l.mast = mastOf(handset);
        return l;
    }

    int emergency(int from) {
        number(from, handsets);
        state(calls.size() < 24);
        if (!idle(from) || mastOf(from) == null) {
            return -2;
        }
        int m = mastOf(from);
        if (load(m) >= masts.get(m).told[3]) {
            Call pushed = null;
            for (Call c : calls) {
                if (c.ended == 0 && c.legs.size() == 2 && (c.legs.get(0).mast == m || c.legs.get(1).mast == m)) {
                    pushed = c;
                }
            }
            if (pushed == null) {
                return -5;
            }
            end(pushed, 4);
        }
        Call c = new Call();
        c.legs.add(leg(from));
        calls.add(c);
        return calls.size() - 1;
    }

    int hang(int call) {
        number(call, calls);
        state(calls.get(call).ended == 0);
        end(calls.get(call), 1);
        return calls.get(call).seconds;
    }

    int text(int from, int to) {
        number(from, handsets);
        number(to, handsets);
        argument(from != to);
        state(texts.size() < 24);
        Text t = new Text();
        t.to = to;
        texts.add(t);
        return ofHandset(to, 10);
    }

    int forget() {
        int knew = 0;
        for (Handset h : handsets) {
            knew += h.register == null ? 0 : 1;
            h.register = null;
        }
        return knew;
    }

    int pass(int seconds) {
        argument(seconds >= 1 && seconds <= 99);
        int before = many(4);
        for (int i = 0; i < seconds; i++) {
            second();
        }
        return before - many(4);
    }

    // ---- what one asks

    int qualityAsked(int mast, int place) {
        number(mast, masts);
        argument(place >= 0 && place <= 99);
        return quality(mast, place);
    }

    int best(int place) {
        argument(place >= 0 && place <= 99);
        return orNone(bestOf(allHeard(place), place));
    }

    int ofMast(int mast, int what) {
        number(mast, masts);
        argument(what >= 0 && what <= 9);
        Mast m = masts.get(mast);
        if (what < 6) {
            return m.told[what];
        }
        int camp = 0;
        for (int h = 0; h < handsets.size(); h++) {
            camp += idle(h) && mastOf(h) != null && mastOf(h) == mast ? 1 : 0;
        }
        return what == 6 ? (m.awake ? 1 : 0) : what == 7 ? load(mast) : what == 8 ? camp : m.carried;
    }

    int ofHandset(int handset, int what) {
        number(handset, handsets);
        argument(what >= 0 && what <= 10);
        Handset h = handsets.get(handset);
        int got = 0;
        int wait = 0;
        for (Text t : texts) {
            got += t.to == handset && t.there ? 1 : 0;
            wait += t.to == handset && !t.there ? 1 : 0;
        }
        int[] all = {h.place, h.speed, h.on ? 1 : 0, orNone(mastOf(handset)), h.balance, orNone(h.register),
            orNone(h.told), orNone(callOf(handset)), h.updates, got, wait};
        return all[what];
    }

    int ofCall(int call, int what) {
        number(call, calls);
        argument(what >= 0 && what <= 8);
        Call c = calls.get(call);
        Leg caller = c.legs.get(0);
        Leg other = c.legs.size() > 1 ? c.legs.get(1) : null;
        int[] all = {caller.handset, other == null ? -1 : other.handset, c.seconds, c.paid, c.handovers,
            c.pingPongs, c.ended, caller.mast, other == null ? -1 : other.mast};
        return all[what];
    }

    int many(int what) {
        argument(what >= 0 && what <= 14);
        int going = 0;
        int dropped = 0;
        int handovers = 0;
        int pingPongs = 0;
        int paid = 0;
        for (Call c : calls) {
            going += c.ended == 0 ? 1 : 0;
            dropped += c.ended == 2 ? 1 : 0;
            handovers += c.handovers;
            pingPongs += c.pingPongs;
            paid += c.paid;
        }
        int waiting = 0;
        for (Text t : texts) {
            waiting += t.there ? 0 : 1;
        }
        int updates = 0;
        int found = 0;
        for (int h = 0; h < handsets.size(); h++) {
            updates += handsets.get(h).updates;
            found += page(h, false) ? 1 : 0;
        }
        int[] all = {now, masts.size(), handsets.size(), calls.size(), going, dropped, handovers, pingPongs, pages,
            texts.size(), waiting, updates, paid, found, what == 14 ? heardWell() : 0};
        return all[what];
    }

    private int heardWell() {
        int places = 0;
        for (int place = 0; place < 100; place++) {
            boolean well = false;
            for (int m = 0; m < masts.size(); m++) {
                well |= quality(m, place) >= 5;
            }
            places += well ? 1 : 0;
        }
        return places;
    }

    double meanSeconds() {
        long sum = 0;
        long ended = 0;
        for (Call c : calls) {
            sum += c.ended == 0 ? 0 : c.seconds;
            ended += c.ended == 0 ? 0 : 1;
        }
        return ended == 0 ? 0 : (double) sum / ended;
    }

    // ---- what would be

    int endsIn(int call, int seconds) {
        number(call, calls);
        argument(seconds >= 1 && seconds <= 99);
        PlainRoad c = copy();
        for (int s = 0; s <= seconds; s++) {
            if (c.calls.get(call).ended != 0) {
                return s;
            }
            c.second();
        }
        return -1;
    }

    int wouldBeOn(int handset, int seconds) {
        number(handset, handsets);
        argument(seconds >= 0 && seconds <= 99);
        PlainRoad c = copy();
        for (int s = 0; s < seconds; s++) {
            c.second();
        }
        return orNone(c.mastOf(handset));
    }

    int bestPlace(int power, int frequency) {
        argument(power >= 10 && power <= 60 && frequency >= 0 && frequency <= 2);
        if (masts.size() == 6) {
            return -1;
        }
        int best = -1;
        int most = -1;
        for (int place = 0; place < 100; place++) {
            PlainRoad c = copy();
            c.mast(place, power, frequency, 1, 0, 0);
            if (c.heardWell() > most) {
                most = c.heardWell();
                best = place;
            }
        }
        return best;
    }

    long digest() {
        List<Integer> all = new ArrayList<>();
        for (int what = 0; what <= 14; what++) {
            all.add(many(what));
        }
        for (int m = 0; m < masts.size(); m++) {
            for (int what = 0; what <= 9; what++) {
                all.add(ofMast(m, what));
            }
            all.add(quality(m, 0));
            all.add(quality(m, 50));
        }
        for (int h = 0; h < handsets.size(); h++) {
            for (int what = 0; what <= 10; what++) {
                all.add(ofHandset(h, what));
            }
            all.add(wouldBeOn(h, 8));
        }
        for (int c = 0; c < calls.size(); c++) {
            for (int what = 0; what <= 8; what++) {
                all.add(ofCall(c, what));
            }
            all.add(endsIn(c, 20));
        }
        all.add(best(33));
        all.add(best(66));
        all.add(bestPlace(30, 1));
        long d = 58188;
        for (int v : all) {
            d = d * 31 + v;
        }
        return d;
    }

    private static int orNone(Integer number) {
        return number == null ? -1 : number;
    }

    private static void number(int number, List<?> list) {
        if (number < 0 || number >= list.size()) {
            throw new IndexOutOfBoundsException();
        }
    }

    private static void argument(boolean right) {
        if (!right) {
            throw new IllegalArgumentException();
        }
    }

    private static void state(boolean right) {
        if (!right) {
            throw new IllegalStateException();
        }
    }
}
