/** A road of moving telephones: masts, handsets, calls and texts, second by second. */
public final class Handoverhouse {
    private static final int NONE = -1;
    private static final int PLACES = 100;
    private static final int LAST_PLACE = 99;
    private static final int MAX_MASTS = 6;
    private static final int MAX_HANDSETS = 8;
    private static final int MAX_CALLS = 24;
    private static final int MAX_TEXTS = 24;

    private static final int ASLEEP_QUALITY = -99;
    private static final int HEARD = 1;
    private static final int HEARD_WELL = 5;
    private static final int BELOW_ALL_QUALITIES = -1000;

    private static final int GOES_ON = 0;
    private static final int HUNG_UP = 1;
    private static final int DROPPED = 2;
    private static final int WITHOUT_CREDIT = 3;
    private static final int PUSHED_OUT = 4;

    private static final int NOT_READY = -2;
    private static final int NOT_FOUND = -3;
    private static final int BUSY = -4;
    private static final int NO_CHANNEL = -5;
    private static final int NO_BALANCE = -6;

    private static final int HANDSET_UPDATES = 8;
    private static final int HANDSET_TEXTS_WAITING = 10;
    private static final int CALL_PAID = 3;
    private static final int CALL_HANDOVERS = 4;
    private static final int CALL_PING_PONGS = 5;

    private static final long DIGEST_START = 58188L;

    private final Masts masts;
    private final Road road;
    /** Kept for all questions about what would be, so that none of them makes a road of its own. */
    private final Road trial;
    private final Survey survey;

    public Handoverhouse() {
        masts = new Masts();
        road = new Road(masts);
        trial = new Road(masts);
        survey = new Survey();
    }

    // ---- what is told

    public int mast(int place, int power, int frequency, int channels, int area, int operator)
            throws IllegalArgumentException, IllegalStateException {
        demandWithin(place, 0, LAST_PLACE);
        demandWithin(power, 10, 60);
        demandWithin(frequency, 0, 2);
        demandWithin(channels, 1, 4);
        demandWithin(area, 0, 3);
        demandWithin(operator, 0, 1);
        if (masts.count >= MAX_MASTS) {
            throw new IllegalStateException("there are 6 masts");
        }
        Mast mast = masts.all[masts.count];
        mast.place = place;
        mast.power = power;
        mast.frequency = frequency;
        mast.channels = channels;
        mast.area = area;
        mast.operator = operator;
        mast.awake = true;
        masts.count++;
        masts.measure();
        return masts.count - 1;
    }

    public int handset(int operator, int place, int speed, int balance)
            throws IllegalArgumentException, IllegalStateException {
        demandWithin(operator, 0, 1);
        demandWithin(place, 0, LAST_PLACE);
        demandWithin(speed, -3, 3);
        demandWithin(balance, 0, 999);
        if (road.handsetCount >= MAX_HANDSETS) {
            throw new IllegalStateException("there are 8 handsets");
        }
        Handset handset = road.handsets[road.handsetCount];
        handset.operator = operator;
        handset.place = place;
        handset.speed = speed;
        handset.balance = balance;
        handset.on = true;
        road.handsetCount++;
        return road.handsetCount - 1;
    }

    public int speed(int handset, int speed) throws IndexOutOfBoundsException, IllegalArgumentException {
        demandNumber(handset, road.handsetCount);
        demandWithin(speed, -3, 3);
        int before = road.handsets[handset].speed;
        road.handsets[handset].speed = speed;
        return before;
    }

    public int top(int handset, int money) throws IndexOutOfBoundsException, IllegalArgumentException {
        demandNumber(handset, road.handsetCount);
        demandWithin(money, 1, 999);
        road.handsets[handset].balance += money;
        return road.handsets[handset].balance;
    }

    public boolean turn(int handset, boolean is) throws IndexOutOfBoundsException {
        demandNumber(handset, road.handsetCount);
        boolean was = road.handsets[handset].on;
        if (was && !is) {
            road.switchOff(road.handsets[handset]);
        }
        road.handsets[handset].on = is;
        return was;
    }

    public boolean wake(int mast, boolean is) throws IndexOutOfBoundsException {
        demandNumber(mast, masts.count);
        if (!is && road.load[mast] > 0) {
            return false;
        }
        if (!is) {
            road.sendAway(mast);
        }
        masts.all[mast].awake = is;
        masts.measure();
        return true;
    }

    // ---- what is done

    public int call(int from, int to)
            throws IndexOutOfBoundsException, IllegalArgumentException, IllegalStateException {
        demandNumber(from, road.handsetCount);
        demandNumber(to, road.handsetCount);
        demandOthers(from, to);
        demandRoomForCall();
        return road.tryCall(from, to);
    }

    public int emergency(int from) throws IndexOutOfBoundsException, IllegalStateException {
        demandNumber(from, road.handsetCount);
        demandRoomForCall();
        return road.tryEmergency(from);
    }

    public int hang(int call) throws IndexOutOfBoundsException, IllegalStateException {
        demandNumber(call, road.callCount);
        Call ending = road.calls[call];
        if (ending.ended != GOES_ON) {
            throw new IllegalStateException("the call has ended");
        }
        road.end(ending, HUNG_UP);
        return ending.seconds;
    }

    public int text(int from, int to)
            throws IndexOutOfBoundsException, IllegalArgumentException, IllegalStateException {
        demandNumber(from, road.handsetCount);
        demandNumber(to, road.handsetCount);
        demandOthers(from, to);
        if (road.textCount >= MAX_TEXTS) {
            throw new IllegalStateException("there were 24 texts");
        }
        road.textCount++;
        road.handsets[to].textsWaiting++;
        return road.handsets[to].textsWaiting;
    }

    public int forget() {
        return road.forgetAreas();
    }

    public int pass(int seconds) throws IllegalArgumentException {
        demandWithin(seconds, 1, 99);
        int before = road.callsThat(GOES_ON);
        for (int i = 0; i < seconds; i++) {
            road.second();
        }
        return before - road.callsThat(GOES_ON);
    }

    // ---- what one asks

    public int quality(int mast, int place) throws IndexOutOfBoundsException, IllegalArgumentException {
        demandNumber(mast, masts.count);
        demandWithin(place, 0, LAST_PLACE);
        return road.qualityAt(mast, place);
    }

    public int best(int place) throws IllegalArgumentException {
        demandWithin(place, 0, LAST_PLACE);
        return road.bestHeardAt(place);
    }

    public int ofMast(int mast, int what) throws IndexOutOfBoundsException, IllegalArgumentException {
        demandNumber(mast, masts.count);
        demandWithin(what, 0, 9);
        switch (what) {
            case 7:
                return road.load[mast];
            case 8:
                return road.campersOn(mast);
            case 9:
                return road.carried[mast];
            default:
                return masts.all[mast].fact(what);
        }
    }

    public int ofHandset(int handset, int what) throws IndexOutOfBoundsException, IllegalArgumentException {
        demandNumber(handset, road.handsetCount);
        demandWithin(what, 0, 10);
        return road.handsets[handset].fact(what);
    }

    public int ofCall(int call, int what) throws IndexOutOfBoundsException, IllegalArgumentException {
        demandNumber(call, road.callCount);
        demandWithin(what, 0, 8);
        return road.calls[call].fact(what);
    }

    public int many(int what) throws IllegalArgumentException {
        demandWithin(what, 0, 14);
        switch (what) {
            case 0:
                return road.now;
            case 1:
                return masts.count;
            case 2:
                return road.handsetCount;
            case 3:
                return road.callCount;
            case 4:
                return road.callsThat(GOES_ON);
            case 5:
                return road.callsThat(DROPPED);
            case 6:
                return road.sumOfCalls(CALL_HANDOVERS);
            case 7:
                return road.sumOfCalls(CALL_PING_PONGS);
            case 8:
                return road.pages;
            case 9:
                return road.textCount;
            case 10:
                return road.sumOfHandsets(HANDSET_TEXTS_WAITING);
            case 11:
                return road.sumOfHandsets(HANDSET_UPDATES);
            case 12:
                return road.sumOfCalls(CALL_PAID);
            case 13:
                return road.handsetsToBeFound();
            default:
                return road.placesHeardWell();
        }
    }

    public double meanSeconds() {
        int ended = road.callCount - road.callsThat(GOES_ON);
        if (ended <= 0) {
            return 0.0;
        }
        return (double) road.secondsOfEndedCalls() / (double) ended;
    }

    // ---- what would be (nothing is changed)

    public int endsIn(int call, int seconds) throws IndexOutOfBoundsException, IllegalArgumentException {
        demandNumber(call, road.callCount);
        demandWithin(seconds, 1, 99);
        if (road.calls[call].ended != GOES_ON) {
            return 0;
        }
        trial.copyFrom(road);
        for (int i = 1; i <= seconds; i++) {
            trial.second();
            if (trial.calls[call].ended != GOES_ON) {
                return i;
            }
        }
        return NONE;
    }

    public int wouldBeOn(int handset, int seconds) throws IndexOutOfBoundsException, IllegalArgumentException {
        demandNumber(handset, road.handsetCount);
        demandWithin(seconds, 0, 99);
        trial.copyFrom(road);
        for (int i = 0; i < seconds; i++) {
            trial.second();
        }
        return trial.handsets[handset].mast;
    }

    public int bestPlace(int power, int frequency) throws IllegalArgumentException {
        demandWithin(power, 10, 60);
        demandWithin(frequency, 0, 2);
        if (masts.count >= MAX_MASTS) {
            return NONE;
        }
        survey.take(road, frequency);
        return survey.placeFor(power);
    }

    public long digest() {
        long d = DIGEST_START;
        for (int what = 0; what <= 14; what++) {
            d = d * 31 + many(what);
        }
        d = addMasts(d);
        d = addHandsets(d);
        d = addCalls(d);
        d = d * 31 + best(33);
        d = d * 31 + best(66);
        return d * 31 + bestPlace(30, 1);
    }

    private long addMasts(long start) {
        long d = start;
        for (int m = 0; m < masts.count; m++) {
            for (int what = 0; what <= 9; what++) {
                d = d * 31 + ofMast(m, what);
            }
            d = d * 31 + quality(m, 0);
            d = d * 31 + quality(m, 50);
        }
        return d;
    }

    private long addHandsets(long start) {
        long d = start;
        for (int h = 0; h < road.handsetCount; h++) {
            for (int what = 0; what <= 10; what++) {
                d = d * 31 + ofHandset(h, what);
            }
            d = d * 31 + wouldBeOn(h, 8);
        }
        return d;
    }

    private long addCalls(long start) {
        long d = start;
        for (int c = 0; c < road.callCount; c++) {
            for (int what = 0; what <= 8; what++) {
                d = d * 31 + ofCall(c, what);
            }
            d = d * 31 + endsIn(c, 20);
        }
        return d;
    }

    private static void demandNumber(int number, int count) {
        if (number < 0 || number >= count) {
            throw new IndexOutOfBoundsException("there is none with this number");
        }
    }

    private static void demandWithin(int value, int least, int most) {
        if (value < least || value > most) {
            throw new IllegalArgumentException("a number is not in its range");
        }
    }

    private static void demandOthers(int from, int to) {
        if (from == to) {
            throw new IllegalArgumentException("both are the same");
        }
    }

    private void demandRoomForCall() {
        if (road.callCount >= MAX_CALLS) {
            throw new IllegalStateException("there were 24 calls");
        }
    }

    /** What was told of one mast. Its load is kept by the road, because a trial has loads of its own. */
    private static final class Mast {
        int place;
        int power;
        int frequency;
        int channels;
        int area;
        int operator;
        boolean awake;

        int distanceTo(int from) {
            return place < from ? from - place : place - from;
        }

        /** What the other masts of its frequency lose there by it. */
        int noiseAt(int where) {
            int above = power - distanceTo(where);
            return awake && above > 0 ? above / 3 : 0;
        }

        int fact(int what) {
            switch (what) {
                case 0:
                    return place;
                case 1:
                    return power;
                case 2:
                    return frequency;
                case 3:
                    return channels;
                case 4:
                    return area;
                case 5:
                    return operator;
                default:
                    return awake ? 1 : 0;
            }
        }
    }

    /** All masts; the road and its trial share them, since seconds change nothing here. */
    private static final class Masts {
        final Mast[] all;
        /** The quality of each mast at each place without a load; kept, because every second asks for many. */
        final int[][] bareQuality;
        int count;

        Masts() {
            all = new Mast[MAX_MASTS];
            for (int m = 0; m < MAX_MASTS; m++) {
                all[m] = new Mast();
            }
            bareQuality = new int[MAX_MASTS][PLACES];
        }

        /** To be called whenever a mast is told, wakes or falls asleep: each of these changes noises. */
        void measure() {
            for (int m = 0; m < count; m++) {
                for (int place = 0; place < PLACES; place++) {
                    bareQuality[m][place] = measureOne(m, place);
                }
            }
        }

        private int measureOne(int number, int place) {
            Mast mast = all[number];
            if (!mast.awake) {
                return ASLEEP_QUALITY;
            }
            int quality = mast.power - mast.distanceTo(place);
            for (int m = 0; m < count; m++) {
                if (m != number && all[m].frequency == mast.frequency) {
                    quality -= all[m].noiseAt(place);
                }
            }
            return quality;
        }

        int awakeInArea(int area) {
            int found = 0;
            for (int m = 0; m < count; m++) {
                if (all[m].awake && all[m].area == area) {
                    found++;
                }
            }
            return found;
        }

        int awake() {
            int found = 0;
            for (int m = 0; m < count; m++) {
                if (all[m].awake) {
                    found++;
                }
            }
            return found;
        }
    }

    /** One handset, with what the register knows of it. */
    private static final class Handset {
        int operator;
        int place;
        int speed;
        int balance;
        boolean on;
        int mast = NONE;
        int call = NONE;
        int knownArea = NONE;
        int toldArea = NONE;
        int toldAt;
        int updates;
        int textsGot;
        int textsWaiting;

        boolean isIdle() {
            return on && call == NONE;
        }

        void move() {
            place += speed;
            if (place < 0) {
                place = -place;
                speed = -speed;
            } else if (place > LAST_PLACE) {
                place = 2 * LAST_PLACE - place;
                speed = -speed;
            }
        }

        void tell(int area, int now) {
            knownArea = area;
            toldArea = area;
            toldAt = now;
            updates++;
        }

        void copyFrom(Handset other) {
            operator = other.operator;
            place = other.place;
            speed = other.speed;
            balance = other.balance;
            on = other.on;
            mast = other.mast;
            call = other.call;
            knownArea = other.knownArea;
            toldArea = other.toldArea;
            toldAt = other.toldAt;
            updates = other.updates;
            textsGot = other.textsGot;
            textsWaiting = other.textsWaiting;
        }

        int fact(int what) {
            switch (what) {
                case 0:
                    return place;
                case 1:
                    return speed;
                case 2:
                    return on ? 1 : 0;
                case 3:
                    return mast;
                case 4:
                    return balance;
                case 5:
                    return knownArea;
                case 6:
                    return toldArea;
                case 7:
                    return call;
                case 8:
                    return updates;
                case 9:
                    return textsGot;
                default:
                    return textsWaiting;
            }
        }
    }

    /** One side of a call; an emergency's other leg stays without a handset. */
    private static final class Leg {
        int handset = NONE;
        int mast = NONE;
        int waits;
        int bad;
        int leftMast = NONE;
        int leftAt;

        boolean isUsed() {
            return handset != NONE && mast != NONE;
        }

        void copyFrom(Leg other) {
            handset = other.handset;
            mast = other.mast;
            waits = other.waits;
            bad = other.bad;
            leftMast = other.leftMast;
            leftAt = other.leftAt;
        }
    }

    /** A call; an emergency is one without another leg. */
    private static final class Call {
        final Leg caller = new Leg();
        final Leg other = new Leg();
        int seconds;
        int paid;
        int handovers;
        int pingPongs;
        int ended = GOES_ON;

        boolean hasLegOn(int mast) {
            return caller.mast == mast || other.mast == mast;
        }

        void copyFrom(Call from) {
            caller.copyFrom(from.caller);
            other.copyFrom(from.other);
            seconds = from.seconds;
            paid = from.paid;
            handovers = from.handovers;
            pingPongs = from.pingPongs;
            ended = from.ended;
        }

        int fact(int what) {
            switch (what) {
                case 0:
                    return caller.handset;
                case 1:
                    return other.handset;
                case 2:
                    return seconds;
                case 3:
                    return paid;
                case 4:
                    return handovers;
                case 5:
                    return pingPongs;
                case 6:
                    return ended;
                case 7:
                    return caller.mast;
                default:
                    return other.mast;
            }
        }
    }

    /** All that seconds change. */
    private static final class Road {
        final Masts masts;
        final int[] load;
        final int[] carried;
        final Handset[] handsets;
        final Call[] calls;
        int handsetCount;
        int callCount;
        int textCount;
        int now;
        int pages;

        Road(Masts shared) {
            masts = shared;
            load = new int[MAX_MASTS];
            carried = new int[MAX_MASTS];
            handsets = new Handset[MAX_HANDSETS];
            for (int h = 0; h < MAX_HANDSETS; h++) {
                handsets[h] = new Handset();
            }
            calls = new Call[MAX_CALLS];
            for (int c = 0; c < MAX_CALLS; c++) {
                calls[c] = new Call();
            }
        }

        void copyFrom(Road other) {
            for (int m = 0; m < MAX_MASTS; m++) {
                load[m] = other.load[m];
                carried[m] = other.carried[m];
            }
            handsetCount = other.handsetCount;
            for (int h = 0; h < handsetCount; h++) {
                handsets[h].copyFrom(other.handsets[h]);
            }
            callCount = other.callCount;
            for (int c = 0; c < callCount; c++) {
                calls[c].copyFrom(other.calls[c]);
            }
            textCount = other.textCount;
            now = other.now;
            pages = other.pages;
        }

        // ---- qualities

        /** A mast that is asleep never has a load, so its quality needs no look at whether it is awake. */
        int qualityAt(int mast, int place) {
            return masts.bareQuality[mast][place] - 2 * load[mast];
        }

        boolean isHeard(int mast, int place) {
            return qualityAt(mast, place) >= HEARD;
        }

        int bestHeardAt(int place) {
            int best = NONE;
            int bestQuality = HEARD - 1;
            for (int m = 0; m < masts.count; m++) {
                int quality = qualityAt(m, place);
                if (quality > bestQuality) {
                    best = m;
                    bestQuality = quality;
                }
            }
            return best;
        }

        int placesHeardWell() {
            int found = 0;
            for (int place = 0; place < PLACES; place++) {
                int best = bestHeardAt(place);
                if (best != NONE && qualityAt(best, place) >= HEARD_WELL) {
                    found++;
                }
            }
            return found;
        }

        boolean hasFreeChannels(int mast, int needed) {
            return load[mast] + needed <= masts.all[mast].channels;
        }

        // ---- the register

        /** Counts the pages; answers whether it is found. */
        boolean page(Handset handset) {
            int known = handset.knownArea;
            if (known == NONE) {
                pages += masts.awake();
                return handset.mast != NONE;
            }
            pages += masts.awakeInArea(known);
            if (isInArea(handset, known)) {
                return true;
            }
            pages += masts.awakeInArea(known - 1) + masts.awakeInArea(known + 1);
            return isInArea(handset, known - 1) || isInArea(handset, known + 1);
        }

        /** Whoever is on a mast is on one that is awake, so only the area matters. */
        private boolean isInArea(Handset handset, int area) {
            return handset.mast != NONE && masts.all[handset.mast].area == area;
        }

        private boolean wouldBeFound(Handset handset) {
            int known = handset.knownArea;
            if (known == NONE) {
                return handset.mast != NONE;
            }
            return isInArea(handset, known - 1) || isInArea(handset, known) || isInArea(handset, known + 1);
        }

        int handsetsToBeFound() {
            int found = 0;
            for (int h = 0; h < handsetCount; h++) {
                if (wouldBeFound(handsets[h])) {
                    found++;
                }
            }
            return found;
        }

        int forgetAreas() {
            int knew = 0;
            for (int h = 0; h < handsetCount; h++) {
                if (handsets[h].knownArea != NONE) {
                    knew++;
                    handsets[h].knownArea = NONE;
                }
            }
            return knew;
        }

        // ---- a second

        void second() {
            now++;
            for (int h = 0; h < handsetCount; h++) {
                handsets[h].move();
            }
            for (int h = 0; h < handsetCount; h++) {
                if (handsets[h].isIdle()) {
                    chooseMast(handsets[h]);
                    tellArea(handsets[h]);
                }
            }
            for (int c = 0; c < callCount; c++) {
                lookAtLeg(calls[c], calls[c].caller);
                lookAtLeg(calls[c], calls[c].other);
            }
            for (int c = 0; c < callCount; c++) {
                charge(calls[c]);
            }
            for (int h = 0; h < handsetCount; h++) {
                deliverTexts(handsets[h]);
            }
        }

        private void chooseMast(Handset handset) {
            int best = bestHeardAt(handset.place);
            if (best == NONE || handset.mast == NONE) {
                handset.mast = best;
                return;
            }
            int own = qualityAt(handset.mast, handset.place);
            boolean stays = own >= HEARD && qualityAt(best, handset.place) - own < 3;
            if (!stays) {
                handset.mast = best;
            }
        }

        private void tellArea(Handset handset) {
            if (handset.mast == NONE) {
                return;
            }
            int area = masts.all[handset.mast].area;
            if (area != handset.toldArea || now - handset.toldAt >= 20) {
                handset.tell(area, now);
            }
        }

        private void lookAtLeg(Call call, Leg leg) {
            if (call.ended != GOES_ON || !leg.isUsed()) {
                return;
            }
            int place = handsets[leg.handset].place;
            int candidate = candidateFor(leg.mast, place);
            boolean heard = isHeard(leg.mast, place);
            leg.waits = isMuchBetter(candidate, leg.mast, place) ? leg.waits + 1 : 0;
            boolean rescued = !heard && candidate != NONE && isHeard(candidate, place);
            if (candidate != NONE && (leg.waits >= 2 || rescued)) {
                handOver(call, leg, candidate);
            } else if (!heard) {
                leg.bad++;
            }
            if (isHeard(leg.mast, place)) {
                leg.bad = 0;
            }
            if (leg.bad >= 3) {
                end(call, DROPPED);
            }
        }

        private boolean isMuchBetter(int candidate, int own, int place) {
            return candidate != NONE && qualityAt(candidate, place) - qualityAt(own, place) >= 4;
        }

        private int candidateFor(int own, int place) {
            int best = NONE;
            int bestQuality = BELOW_ALL_QUALITIES;
            for (int m = 0; m < masts.count; m++) {
                if (m == own || !masts.all[m].awake || !hasFreeChannels(m, 1)) {
                    continue;
                }
                int quality = qualityAt(m, place);
                if (quality > bestQuality) {
                    best = m;
                    bestQuality = quality;
                }
            }
            return best;
        }

        private void handOver(Call call, Leg leg, int mast) {
            call.handovers++;
            if (leg.leftMast == mast && now - leg.leftAt <= 5) {
                call.pingPongs++;
            }
            leg.leftMast = leg.mast;
            leg.leftAt = now;
            leg.waits = 0;
            load[leg.mast]--;
            load[mast]++;
            leg.mast = mast;
            handsets[leg.handset].mast = mast;
        }

        private void charge(Call call) {
            if (call.ended != GOES_ON || !call.caller.isUsed()) {
                return;
            }
            Handset payer = handsets[call.caller.handset];
            int price = price(call, payer);
            if (payer.balance < price) {
                end(call, WITHOUT_CREDIT);
                return;
            }
            payer.balance -= price;
            call.paid += price;
            call.seconds++;
            carry(call.caller);
            carry(call.other);
        }

        private void carry(Leg leg) {
            if (leg.isUsed()) {
                carried[leg.mast]++;
            }
        }

        private int price(Call call, Handset payer) {
            if (!call.other.isUsed()) {
                return 0;
            }
            return masts.all[call.caller.mast].operator == payer.operator ? 1 : 3;
        }

        /** A handset that is on a mast gets all its texts at once, so their order needs no keeping. */
        private void deliverTexts(Handset handset) {
            if (handset.mast != NONE) {
                handset.textsGot += handset.textsWaiting;
                handset.textsWaiting = 0;
            }
        }

        // ---- calls

        int tryCall(int from, int to) {
            Handset caller = handsets[from];
            Handset other = handsets[to];
            if (!caller.isIdle() || caller.mast == NONE) {
                return NOT_READY;
            }
            if (!page(other)) {
                return NOT_FOUND;
            }
            if (!other.isIdle()) {
                return BUSY;
            }
            boolean free = caller.mast == other.mast
                    ? hasFreeChannels(caller.mast, 2)
                    : hasFreeChannels(caller.mast, 1) && hasFreeChannels(other.mast, 1);
            if (!free) {
                return NO_CHANNEL;
            }
            if (caller.balance < 3) {
                return NO_BALANCE;
            }
            join(calls[callCount].caller, from);
            join(calls[callCount].other, to);
            callCount++;
            return callCount - 1;
        }

        int tryEmergency(int from) {
            Handset caller = handsets[from];
            if (!caller.isIdle() || caller.mast == NONE) {
                return NOT_READY;
            }
            if (!hasFreeChannels(caller.mast, 1)) {
                int pushed = callToPush(caller.mast);
                if (pushed == NONE) {
                    return NO_CHANNEL;
                }
                end(calls[pushed], PUSHED_OUT);
            }
            join(calls[callCount].caller, from);
            callCount++;
            return callCount - 1;
        }

        /** The leg belongs to the call that is about to get the next number. */
        private void join(Leg leg, int handset) {
            leg.handset = handset;
            leg.mast = handsets[handset].mast;
            load[leg.mast]++;
            handsets[handset].call = callCount;
        }

        private int callToPush(int mast) {
            for (int c = callCount - 1; c >= 0; c--) {
                Call call = calls[c];
                if (call.ended == GOES_ON && call.other.isUsed() && call.hasLegOn(mast)) {
                    return c;
                }
            }
            return NONE;
        }

        void end(Call call, int how) {
            call.ended = how;
            if (call.caller.isUsed()) {
                release(call.caller);
            }
            if (call.other.isUsed()) {
                release(call.other);
            }
        }

        /** The leg keeps its mast, because one may ask where it was as the call ended. */
        private void release(Leg leg) {
            load[leg.mast]--;
            handsets[leg.handset].call = NONE;
        }

        void switchOff(Handset handset) {
            if (handset.call != NONE) {
                end(calls[handset.call], HUNG_UP);
            }
            handset.mast = NONE;
        }

        /** Only for a mast without a load: then all that are on it are idle. */
        void sendAway(int mast) {
            for (int h = 0; h < handsetCount; h++) {
                if (handsets[h].mast == mast) {
                    handsets[h].mast = NONE;
                }
            }
        }

        // ---- counts

        int campersOn(int mast) {
            int found = 0;
            for (int h = 0; h < handsetCount; h++) {
                if (handsets[h].isIdle() && handsets[h].mast == mast) {
                    found++;
                }
            }
            return found;
        }

        int callsThat(int ended) {
            int found = 0;
            for (int c = 0; c < callCount; c++) {
                if (calls[c].ended == ended) {
                    found++;
                }
            }
            return found;
        }

        int sumOfCalls(int what) {
            int sum = 0;
            for (int c = 0; c < callCount; c++) {
                sum += calls[c].fact(what);
            }
            return sum;
        }

        int sumOfHandsets(int what) {
            int sum = 0;
            for (int h = 0; h < handsetCount; h++) {
                sum += handsets[h].fact(what);
            }
            return sum;
        }

        int secondsOfEndedCalls() {
            int sum = 0;
            for (int c = 0; c < callCount; c++) {
                if (calls[c].ended != GOES_ON) {
                    sum += calls[c].seconds;
                }
            }
            return sum;
        }
    }

    /** Where one mast more would serve best. It takes place by place once what does not depend on the new one. */
    private static final class Survey {
        /** The best quality of the masts that would not hear the new one's noise, place by place. */
        private final int[] undisturbed = new int[PLACES];
        /** The best quality of the masts that would, without it. */
        private final int[] disturbed = new int[PLACES];
        /** The noise that the new one would hear. */
        private final int[] noise = new int[PLACES];

        void take(Road road, int frequency) {
            for (int place = 0; place < PLACES; place++) {
                undisturbed[place] = BELOW_ALL_QUALITIES;
                disturbed[place] = BELOW_ALL_QUALITIES;
                noise[place] = 0;
                for (int m = 0; m < road.masts.count; m++) {
                    takeMast(road, m, frequency, place);
                }
            }
        }

        private void takeMast(Road road, int number, int frequency, int place) {
            Mast mast = road.masts.all[number];
            int quality = road.qualityAt(number, place);
            if (mast.frequency == frequency) {
                disturbed[place] = Math.max(disturbed[place], quality);
                noise[place] += mast.noiseAt(place);
            } else {
                undisturbed[place] = Math.max(undisturbed[place], quality);
            }
        }

        int placeFor(int power) {
            int best = NONE;
            int bestServed = NONE;
            for (int place = 0; place < PLACES; place++) {
                int served = servedFrom(place, power);
                if (served > bestServed) {
                    best = place;
                    bestServed = served;
                }
            }
            return best;
        }

        private int servedFrom(int newPlace, int power) {
            int served = 0;
            for (int place = 0; place < PLACES; place++) {
                int above = power - Math.abs(newPlace - place);
                int newNoise = above > 0 ? above / 3 : 0;
                if (undisturbed[place] >= HEARD_WELL
                        || disturbed[place] - newNoise >= HEARD_WELL
                        || above - noise[place] >= HEARD_WELL) {
                    served++;
                }
            }
            return served;
        }
    }
}
