/** Promises 1 to 7: nothing told yet, the last that may be told, and what is refused. */
final class ToldEdges {
    private ToldEdges() {
    }

    /** One mast, one handset on it. */
    private static Handoverhouse oneOfEach() {
        Handoverhouse x = new Handoverhouse();
        x.mast(50, 30, 0, 4, 0, 0);
        x.handset(0, 50, 0, 10);
        x.pass(1);
        return x;
    }

    @Says(where = "promise 1", words = "Creates a road without MASTS.")
    static void emptyRoad() {
        Handoverhouse x = new Handoverhouse();
        for (int what = 0; what <= 14; what++) {
            Check.due("empty: many " + what, x.many(what), 0);
        }
        for (int place = 0; place <= 99; place++) {
            Check.due("empty: best at " + place, x.best(place), -1);
        }
        Check.due("empty: mean", x.meanSeconds(), 0.0);
        Check.due("empty: forget", x.forget(), 0);
        Check.due("empty: bestPlace", x.bestPlace(10, 0), 5);
        Check.due("empty: pass", x.pass(99), 0);
        Check.noSuch("empty: mast", x, 0, v -> x.quality(v, 0));
        Check.noSuch("empty: handset", x, 0, v -> x.wouldBeOn(v, 0));
        Check.noSuch("empty: call", x, 0, v -> x.endsIn(v, 1));
        Handoverhouse full = new Handoverhouse();
        for (int m = 0; m < 6; m++) {
            full.mast(0, 60, 0, 4, 0, 0);
        }
        Check.due("empty: beside a full one", new Handoverhouse().many(1), 0);
    }

    @Says(where = "promise 2", words = "Throws `IllegalArgumentException` if one of these is not as section 1 says")
    static void mastOutside() {
        Handoverhouse x = new Handoverhouse();
        for (int m = 0; m <= 6; m++) {
            Check.outside("mast: place", x, 0, 99, v -> x.mast(v, 30, 0, 1, 0, 0));
            Check.outside("mast: power", x, 10, 60, v -> x.mast(0, v, 0, 1, 0, 0));
            Check.outside("mast: frequency", x, 0, 2, v -> x.mast(0, 30, v, 1, 0, 0));
            Check.outside("mast: channels", x, 1, 4, v -> x.mast(0, 30, 0, v, 0, 0));
            Check.outside("mast: area", x, 0, 3, v -> x.mast(0, 30, 0, 1, v, 0));
            Check.outside("mast: operator", x, 0, 1, v -> x.mast(0, 30, 0, 1, 0, v));
            if (m < 6) {
                x.mast(0, 30, 0, 1, 0, 0);
            }
        }
        Check.due("mast: a refused one has no number", x.many(1), 6);
    }

    @Says(where = "promise 2", words = "Throws `IllegalStateException` if there are 6")
    static void mastFull() {
        Handoverhouse x = new Handoverhouse();
        for (int m = 0; m < 6; m++) {
            Check.due("mast: the number", x.mast(m, 30, 0, 1, 0, 0), m);
        }
        for (int again = 0; again < 3; again++) {
            Check.noState("mast: full", x, () -> x.mast(0, 30, 0, 1, 0, 0));
        }
    }

    @Says(where = "promise 3", words = "Throws `IllegalArgumentException` if operator is not 0 or 1, place not 0 to 99, speed not -3 to 3, or balance not 0 to 999")
    static void handsetOutside() {
        Handoverhouse x = new Handoverhouse();
        for (int h = 0; h <= 8; h++) {
            Check.outside("handset: operator", x, 0, 1, v -> x.handset(v, 0, 0, 0));
            Check.outside("handset: place", x, 0, 99, v -> x.handset(0, v, 0, 0));
            Check.outside("handset: speed", x, -3, 3, v -> x.handset(0, 0, v, 0));
            Check.outside("handset: balance", x, 0, 999, v -> x.handset(0, 0, 0, v));
            if (h < 8) {
                x.handset(h % 2, h % 2 * 99, h % 2 * 6 - 3, h % 2 * 999);
            }
        }
        Check.due("handset: a refused one has no number", x.many(2), 8);
        Check.due("handset: the least balance", x.ofHandset(0, 4), 0);
        Check.due("handset: the greatest balance", x.ofHandset(7, 4), 999);
        Check.due("handset: the least speed", x.ofHandset(0, 1), -3);
        Check.due("handset: the greatest speed", x.ofHandset(7, 1), 3);
    }

    @Says(where = "promise 3", words = "Throws `IllegalStateException` if there are 8")
    static void handsetFull() {
        Handoverhouse x = new Handoverhouse();
        for (int h = 0; h < 8; h++) {
            Check.due("handset: the number", x.handset(0, h, 0, 0), h);
        }
        for (int again = 0; again < 3; again++) {
            Check.noState("handset: full", x, () -> x.handset(0, 0, 0, 0));
        }
    }

    @Says(where = "promise 4", words = "Throws `IndexOutOfBoundsException` if there is no such HANDSET")
    static void speedOfNone() {
        Handoverhouse x = oneOfEach();
        Check.noSuch("speed: handset", x, 1, v -> x.speed(v, 1));
        Handoverhouse none = new Handoverhouse();
        Check.noSuch("speed: without handsets", none, 0, v -> none.speed(v, 1));
    }

    @Says(where = "promise 4", words = "Throws `IllegalArgumentException` if speed is not -3 to 3")
    static void speedOutside() {
        Handoverhouse x = oneOfEach();
        Check.outside("speed:", x, -3, 3, v -> x.speed(0, v));
        int before = 0;
        for (int speed = -3; speed <= 3; speed++) {
            Check.due("speed: that before " + speed, x.speed(0, speed), before);
            before = speed;
        }
    }

    @Says(where = "promise 5", words = "Throws `IndexOutOfBoundsException` if there is no such HANDSET")
    static void topOfNone() {
        Handoverhouse x = oneOfEach();
        Check.noSuch("top: handset", x, 1, v -> x.top(v, 1));
        Handoverhouse none = new Handoverhouse();
        Check.noSuch("top: without handsets", none, 0, v -> none.top(v, 1));
    }

    @Says(where = "promise 5", words = "Throws `IllegalArgumentException` if money is not 1 to 999")
    static void topOutside() {
        Handoverhouse x = oneOfEach();
        Check.outside("top:", x, 1, 999, v -> x.top(0, v));
        Check.due("top: the least", x.top(0, 1), 11);
        Check.due("top: the most", x.top(0, 999), 1010);
    }

    @Says(where = "promise 5", words = "Returns the BALANCE then.")
    static void topAboveAllThatCanBeTold() {
        Handoverhouse x = new Handoverhouse();
        x.handset(0, 0, 0, 999);
        for (int again = 1; again <= 500; again++) {
            Check.due("top: again " + again, x.top(0, 999), 999 + 999 * again);
        }
    }

    @Says(where = "promise 6", words = "If it goes OFF in a CALL, that ends as if HUNG up.")
    static void offInCall() {
        for (int off = 0; off <= 1; off++) {
            Handoverhouse x = oneOfEach();
            x.handset(0, 50, 0, 10);
            x.pass(1);
            x.call(0, 1);
            x.pass(2);
            Check.due("off in a call", x.turn(off, false), true);
            Check.due("off in a call: hung up", x.ofCall(0, 6), 1);
            Check.due("off in a call: its seconds", x.ofCall(0, 2), 2);
            Check.due("off in a call: on none", x.ofHandset(off, 3), -1);
            Check.due("off in a call: in none", x.ofHandset(off, 7), -1);
            Check.due("off in a call: the other one stays there", x.ofHandset(1 - off, 3), 0);
            Check.due("off in a call: the other one is idle", x.ofMast(0, 8), 1);
            Check.due("off in a call: no load", x.ofMast(0, 7), 0);
            Check.noState("off in a call: hung up by that", x, () -> x.hang(0));
        }
        Handoverhouse x = oneOfEach();
        x.emergency(0);
        x.turn(0, false);
        Check.due("off in an emergency: hung up", x.ofCall(0, 6), 1);
        Check.due("off in an emergency: where it was", x.ofCall(0, 7), 0);
    }

    @Says(where = "promise 6", words = "One that was OFF and goes ON is on NONE.")
    static void onAgain() {
        Handoverhouse x = oneOfEach();
        Check.due("on while on", x.turn(0, true), true);
        Check.due("on while on: keeps its mast", x.ofHandset(0, 3), 0);
        x.turn(0, false);
        Check.due("off while off", x.turn(0, false), false);
        Check.due("on again", x.turn(0, true), false);
        Check.due("on again: on none", x.ofHandset(0, 3), -1);
        Check.due("on again: calls nobody yet", x.emergency(0), -2);
        x.pass(1);
        Check.due("on again: a second later", x.ofHandset(0, 3), 0);
        x.emergency(0);
        Check.due("on while in a call", x.turn(0, true), true);
        Check.due("on while in a call: it goes on", x.ofCall(0, 6), 0);
        Check.due("on while in a call: keeps its mast", x.ofHandset(0, 3), 0);
    }

    @Says(where = "promise 6", words = "Throws `IndexOutOfBoundsException` if there is no such HANDSET")
    static void turnOfNone() {
        Handoverhouse x = oneOfEach();
        Check.noSuch("turn on: handset", x, 1, v -> x.turn(v, true));
        Check.noSuch("turn off: handset", x, 1, v -> x.turn(v, false));
        Handoverhouse none = new Handoverhouse();
        Check.noSuch("turn: without handsets", none, 0, v -> none.turn(v, false));
    }

    @Says(where = "promise 7", words = "IDLE ones that are on one that falls ASLEEP are on NONE.")
    static void sentAway() {
        Handoverhouse x = oneOfEach();
        x.mast(50, 31, 1, 4, 0, 0);
        x.handset(0, 50, 0, 10);
        x.pass(1);
        x.wake(0, false);
        Check.due("asleep: its handset on none at once", x.ofHandset(0, 3), -1);
        Check.due("asleep: the other mast's one stays", x.ofHandset(1, 3), 1);
        Check.due("asleep: it keeps what is known", x.ofHandset(0, 5), 0);
        x.wake(0, true);
        Check.due("awake again: still on none", x.ofHandset(0, 3), -1);
        x.wake(1, true);
        Check.due("awake while awake: keeps its handset", x.ofHandset(1, 3), 1);
    }

    @Says(where = "promise 7", words = "Returns whether that is done (not, if it has a LOAD and has to sleep).")
    static void loadKeepsAwake() {
        Handoverhouse x = oneOfEach();
        Check.due("asleep without a load", x.wake(0, false), true);
        Check.due("asleep while asleep", x.wake(0, false), true);
        Check.due("awake", x.wake(0, true), true);
        x.pass(1);
        x.handset(0, 50, 0, 0);
        x.emergency(0);
        x.pass(1);
        Check.due("a load of 1", x.ofMast(0, 7), 1);
        Check.noChange("asleep with a load", x, () -> Check.due("asleep with a load", x.wake(0, false), false));
        Check.due("the one that camps stays", x.ofHandset(1, 3), 0);
        Check.due("awake with a load", x.wake(0, true), true);
        x.hang(0);
        Check.due("asleep once it is gone", x.wake(0, false), true);
        Check.due("asleep: both on none", x.ofHandset(0, 3) + x.ofHandset(1, 3), -2);
    }

    @Says(where = "promise 7", words = "Throws `IndexOutOfBoundsException` if there is no such MAST")
    static void wakeOfNone() {
        Handoverhouse x = oneOfEach();
        Check.noSuch("wake: mast", x, 1, v -> x.wake(v, true));
        Check.noSuch("sleep: mast", x, 1, v -> x.wake(v, false));
        Handoverhouse none = new Handoverhouse();
        Check.noSuch("wake: without masts", none, 0, v -> none.wake(v, false));
    }
}
