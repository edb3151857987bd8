import java.math.BigInteger;

/** Promises 21 to 24: the shortest and the longest time, the full road, and the sum that wraps around. */
final class WouldBeEdges {
    private WouldBeEdges() {
    }

    private static Handoverhouse inCall(int balance) {
        Handoverhouse x = new Handoverhouse();
        x.mast(50, 30, 0, 4, 0, 0);
        x.handset(0, 50, 0, balance);
        x.handset(0, 50, 0, 0);
        x.pass(1);
        x.call(0, 1);
        return x;
    }

    @Says(where = "promise 21", words = "Returns in how many seconds it would end, if nothing else was done; 0, if it has ended; NONE, if not in these.")
    static void endsInThese() {
        for (int seconds = 1; seconds <= 99; seconds += 7) {
            Check.due("ends in: these " + seconds, inCall(98).endsIn(0, seconds), seconds == 99 ? 99 : -1);
        }
        Check.due("ends in: the last of 99", inCall(98).endsIn(0, 99), 99);
        Check.due("ends in: the one behind 99", inCall(99).endsIn(0, 99), -1);
        Handoverhouse x = inCall(3);
        Check.due("ends in: one too few", x.endsIn(0, 3), -1);
        Check.due("ends in: just these", x.endsIn(0, 4), 4);
        x.pass(3);
        Check.due("ends in: 1", x.endsIn(0, 1), 1);
        Check.due("ends in: it still goes on", x.ofCall(0, 6), 0);
        Check.due("ends in: nothing was paid for that", x.ofHandset(0, 4), 0);
        x.pass(1);
        Check.due("ends in: has ended", x.endsIn(0, 1), 0);
        Check.due("ends in: has ended, of 99", x.endsIn(0, 99), 0);
    }

    @Says(where = "section 4", words = "what would be (nothing is changed).")
    static void nothingIsChanged() {
        Handoverhouse asked = fullTo(6, 8);
        Handoverhouse quiet = fullTo(6, 8);
        Check.due("nothing is changed: all calls were made", asked.many(3), 24);
        Check.due("nothing is changed: some go on", asked.many(4) > 2, true);
        for (int second = 0; second < 60; second++) {
            asked.endsIn(second % 24, 99);
            asked.wouldBeOn(second % 8, 99);
            asked.bestPlace(10 + second % 51, second % 3);
            Check.due("nothing is changed: pass", asked.pass(1), quiet.pass(1));
            Check.due("nothing is changed: digest", asked.digest(), quiet.digest());
        }
        Check.due("nothing is changed: mean", asked.meanSeconds(), quiet.meanSeconds());
    }

    @Says(where = "promise 21", words = "Throws `IndexOutOfBoundsException` if there is no such CALL")
    static void endsInOfNone() {
        Handoverhouse x = inCall(50);
        Check.noSuch("ends in: call", x, 1, v -> x.endsIn(v, 1));
        Handoverhouse none = new Handoverhouse();
        Check.noSuch("ends in: without calls", none, 0, v -> none.endsIn(v, 1));
    }

    @Says(where = "promise 21", words = "Throws `IllegalArgumentException` if seconds is not 1 to 99")
    static void endsInOutside() {
        Handoverhouse x = inCall(50);
        Check.outside("ends in: seconds", x, 1, 99, v -> x.endsIn(0, v));
        x.hang(0);
        Check.outside("ends in: seconds, has ended", x, 1, 99, v -> x.endsIn(0, v));
    }

    @Says(where = "promise 22", words = "Returns the MAST on which it would be then (NONE).")
    static void wouldBeOnThen() {
        Handoverhouse x = new Handoverhouse();
        x.mast(0, 10, 0, 4, 0, 0);
        x.mast(99, 10, 1, 4, 0, 0);
        x.handset(0, 0, 1, 0);
        Check.due("would be on: now", x.wouldBeOn(0, 0), -1);
        Check.due("would be on: in 1", x.wouldBeOn(0, 1), 0);
        Check.due("would be on: in 9", x.wouldBeOn(0, 9), 0);
        Check.due("would be on: in 10", x.wouldBeOn(0, 10), -1);
        Check.due("would be on: in 89", x.wouldBeOn(0, 89), -1);
        Check.due("would be on: in 90", x.wouldBeOn(0, 90), 1);
        Check.due("would be on: in 99", x.wouldBeOn(0, 99), 1);
        Check.due("would be on: it has not moved", x.ofHandset(0, 0), 0);
        Check.due("would be on: it is on none", x.ofHandset(0, 3), -1);
        x.pass(90);
        Check.due("would be on: now, on the last", x.wouldBeOn(0, 0), 1);
        Check.due("would be on: behind the turn", x.wouldBeOn(0, 18), 1);
        Check.due("would be on: too far behind the turn", x.wouldBeOn(0, 19), -1);
    }

    @Says(where = "promise 22", words = "Throws `IndexOutOfBoundsException` if there is no such HANDSET")
    static void wouldBeOnOfNone() {
        Handoverhouse x = inCall(50);
        Check.noSuch("would be on: handset", x, 2, v -> x.wouldBeOn(v, 0));
        Handoverhouse none = new Handoverhouse();
        Check.noSuch("would be on: without handsets", none, 0, v -> none.wouldBeOn(v, 0));
    }

    @Says(where = "promise 22", words = "Throws `IllegalArgumentException` if seconds is not 0 to 99")
    static void wouldBeOnOutside() {
        Handoverhouse x = inCall(50);
        Check.outside("would be on: seconds", x, 0, 99, v -> x.wouldBeOn(0, v));
    }

    @Says(where = "promise 23", words = "would make many() of 14 greatest; of several the smallest; NONE, if there are 6.")
    static void smallestOfSeveral() {
        Handoverhouse x = new Handoverhouse();
        Check.due("best place: 5 to each side", x.bestPlace(10, 0), 5);
        Check.due("best place: 54 to each side", x.bestPlace(59, 0), 45);
        Check.due("best place: 55 to each side", x.bestPlace(60, 0), 44);
        x.mast(50, 60, 0, 4, 0, 0);
        Check.due("best place: all places have one", x.bestPlace(10, 1), 0);
        Check.due("best place: its noise is too little", x.bestPlace(10, 0), 0);
        for (int m = 1; m < 6; m++) {
            Check.due("best place: room for one more", x.bestPlace(10, 1), 0);
            x.mast(50, 60, 2, 4, 0, 0);
        }
        Check.due("best place: there are 6", x.bestPlace(10, 1), -1);
        for (int m = 0; m < 6; m++) {
            x.wake(m, false);
        }
        Check.due("best place: there are 6, all asleep", x.bestPlace(10, 1), -1);
        Handoverhouse last = new Handoverhouse();
        last.mast(39, 60, 0, 4, 0, 0);
        Check.due("best place: 95 to 99 are left, and 89 is the first for them", last.bestPlace(15, 1), 89);
        Handoverhouse loaded = new Handoverhouse();
        loaded.mast(0, 10, 0, 4, 0, 0);
        loaded.handset(0, 0, 0, 0);
        loaded.pass(1);
        Check.due("best place: behind 0 to 5", loaded.bestPlace(10, 1), 11);
        loaded.emergency(0);
        Check.due("best place: a load makes room", loaded.bestPlace(10, 1), 9);
    }

    @Says(where = "promise 23", words = "Throws `IllegalArgumentException` if power is not 10 to 60, or frequency not 0 to 2")
    static void bestPlaceOutside() {
        Handoverhouse x = new Handoverhouse();
        for (int m = 0; m <= 6; m++) {
            Check.outside("best place: power", x, 10, 60, v -> x.bestPlace(v, 0));
            Check.outside("best place: frequency", x, 0, 2, v -> x.bestPlace(10, v));
            for (int frequency = 0; frequency <= 2; frequency++) {
                Check.due("best place: the least power", x.bestPlace(10, frequency) >= 0, m < 6);
                Check.due("best place: the greatest power", x.bestPlace(60, frequency) >= 0, m < 6);
            }
            if (m < 6) {
                x.mast(0, 30, 0, 1, 0, 0);
            }
        }
    }

    @Says(where = "promise 24", words = "d becomes d * 31 + v, which wraps around as a 64-bit integer")
    static void digestWrapsAround() {
        int answersBelowZero = 0;
        for (int masts = 0; masts <= 6; masts++) {
            for (int handsets = 0; handsets <= 8; handsets += 2) {
                Handoverhouse x = fullTo(masts, handsets);
                BigInteger sum = sumOf(x);
                Check.due("digest: needs to wrap around", sum.bitLength() > 64, true);
                Check.due("digest: " + masts + " masts, " + handsets + " handsets", x.digest(), sum.longValue());
                answersBelowZero += x.digest() < 0 ? 1 : 0;
            }
        }
        Check.due("digest: on both sides of 0", answersBelowZero > 5 && answersBelowZero < 30, true);
    }

    /** Calls as many as can be made, some of which go on, and texts. */
    private static Handoverhouse fullTo(int masts, int handsets) {
        Handoverhouse x = new Handoverhouse();
        for (int m = 0; m < masts; m++) {
            x.mast(m * 99 / 6, 25 + m, m % 3, 4, m % 4, m % 2);
        }
        for (int h = 0; h < handsets; h++) {
            x.handset(h % 2, h * 12, h % 4, 40 + h);
        }
        x.pass(1);
        for (int turn = 0; turn < 24 && handsets > 0; turn++) {
            int from = turn % handsets;
            int to = (turn + 1) % handsets;
            x.text(from, to);
            x.pass(1);
            if (x.ofHandset(from, 7) >= 0) {
                x.hang(x.ofHandset(from, 7));
            }
            if (turn % 4 != 0 || x.call(from, to) < 0) {
                x.emergency(from);
            }
        }
        return x;
    }

    /** The document's numbers without any wrap-around. */
    private static BigInteger sumOf(Handoverhouse x) {
        BigInteger d = BigInteger.valueOf(58188);
        for (int what = 0; what <= 14; what++) {
            d = next(d, x.many(what));
        }
        for (int m = 0; m < x.many(1); m++) {
            for (int what = 0; what <= 9; what++) {
                d = next(d, x.ofMast(m, what));
            }
            d = next(next(d, x.quality(m, 0)), x.quality(m, 50));
        }
        for (int h = 0; h < x.many(2); h++) {
            for (int what = 0; what <= 10; what++) {
                d = next(d, x.ofHandset(h, what));
            }
            d = next(d, x.wouldBeOn(h, 8));
        }
        for (int c = 0; c < x.many(3); c++) {
            for (int what = 0; what <= 8; what++) {
                d = next(d, x.ofCall(c, what));
            }
            d = next(d, x.endsIn(c, 20));
        }
        return next(next(next(d, x.best(33)), x.best(66)), x.bestPlace(30, 1));
    }

    private static BigInteger next(BigInteger d, int v) {
        return d.multiply(BigInteger.valueOf(31)).add(BigInteger.valueOf(v));
    }
}
