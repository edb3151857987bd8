import java.util.function.IntUnaryOperator;

/** Promises 14 to 20: what is asked of none, of the first and of the last, and answers at their edges. */
final class AskedEdges {
    private AskedEdges() {
    }

    private static Handoverhouse onOneMast(int handsets, int balance) {
        Handoverhouse x = new Handoverhouse();
        x.mast(50, 30, 0, 4, 0, 0);
        for (int h = 0; h < handsets; h++) {
            x.handset(0, 50, 0, balance);
        }
        x.pass(1);
        return x;
    }

    private static void answers(String what, IntUnaryOperator asked, int... due) {
        for (int i = 0; i < due.length; i++) {
            Check.due(what + " " + i, asked.applyAsInt(i), due[i]);
        }
    }

    @Says(where = "promise 14", words = "Throws `IndexOutOfBoundsException` if there is no such MAST")
    static void qualityOfNone() {
        Handoverhouse x = onOneMast(0, 0);
        Check.noSuch("quality: mast", x, 1, v -> x.quality(v, 50));
        Handoverhouse none = new Handoverhouse();
        Check.noSuch("quality: without masts", none, 0, v -> none.quality(v, 50));
    }

    @Says(where = "promise 14", words = "Throws `IllegalArgumentException` if place is not 0 to 99")
    static void qualityOutside() {
        Handoverhouse x = onOneMast(0, 0);
        Check.outside("quality: place", x, 0, 99, v -> x.quality(0, v));
        Check.due("quality: the first place", x.quality(0, 0), -20);
        Check.due("quality: the last place", x.quality(0, 99), -19);
        x.wake(0, false);
        Check.outside("quality: place of one asleep", x, 0, 99, v -> x.quality(0, v));
    }

    @Says(where = "promise 15", words = "Returns the BEST MAST that is HEARD there; NONE without one.")
    static void bestWithoutOne() {
        Handoverhouse x = new Handoverhouse();
        Check.due("best: without masts", x.best(0), -1);
        x.mast(0, 10, 0, 4, 0, 0);
        x.mast(99, 10, 1, 4, 0, 0);
        for (int place = 0; place <= 99; place++) {
            Check.due("best: at " + place, x.best(place), place <= 9 ? 0 : place >= 90 ? 1 : -1);
        }
        x.handset(0, 9, 0, 0);
        x.pass(1);
        x.emergency(0);
        Check.due("best: with a load, quality 1", x.best(7), 0);
        Check.due("best: with a load, quality 0", x.best(8), -1);
    }

    @Says(where = "promise 15", words = "Throws `IllegalArgumentException` if place is not 0 to 99")
    static void bestOutside() {
        Handoverhouse x = onOneMast(0, 0);
        Check.outside("best: place", x, 0, 99, v -> x.best(v));
        Handoverhouse none = new Handoverhouse();
        Check.outside("best: place, without masts", none, 0, 99, v -> none.best(v));
    }

    @Says(where = "promise 16", words = "7 its LOAD, 8 HANDSETS that camp on it, 9 what it CARRIED ever")
    static void mastWithAllItCanHave() {
        Handoverhouse x = onOneMast(8, 50);
        answers("mast: all camp", what -> x.ofMast(0, what), 50, 30, 0, 4, 0, 0, 1, 0, 8, 0);
        x.call(0, 1);
        x.call(2, 3);
        x.pass(10);
        answers("mast: four on it", what -> x.ofMast(0, what), 50, 30, 0, 4, 0, 0, 1, 4, 4, 40);
        x.hang(0);
        x.hang(1);
        answers("mast: all camp again", what -> x.ofMast(0, what), 50, 30, 0, 4, 0, 0, 1, 0, 8, 40);
        x.wake(0, false);
        answers("mast: asleep", what -> x.ofMast(0, what), 50, 30, 0, 4, 0, 0, 0, 0, 0, 40);
    }

    @Says(where = "promise 16", words = "Throws `IndexOutOfBoundsException` if there is no such MAST")
    static void ofMastOfNone() {
        Handoverhouse x = onOneMast(0, 0);
        Handoverhouse none = new Handoverhouse();
        for (int asked = 0; asked <= 9; asked++) {
            int what = asked;
            Check.noSuch("ofMast: mast", x, 1, v -> x.ofMast(v, what));
            Check.noSuch("ofMast: without masts", none, 0, v -> none.ofMast(v, what));
        }
    }

    @Says(where = "promise 16", words = "Throws `IllegalArgumentException` if what is not 0 to 9")
    static void ofMastOutside() {
        Handoverhouse x = onOneMast(0, 0);
        Check.outside("ofMast: what", x, 0, 9, v -> x.ofMast(0, v));
    }

    @Says(where = "promise 17", words = "2 1 if it is ON, otherwise 0, 3 the MAST on which it is (NONE), 4 BALANCE, 5 the AREA that the REGISTER knows (NONE), 6 the AREA that it TOLD last (NONE), 7 the CALL in which it is (NONE)")
    static void handsetWithNone() {
        Handoverhouse x = new Handoverhouse();
        x.handset(1, 50, -3, 999);
        answers("handset: at first", what -> x.ofHandset(0, what), 50, -3, 1, -1, 999, -1, -1, -1, 0, 0, 0);
        x.speed(0, 0);
        x.mast(50, 30, 0, 1, 0, 0);
        x.handset(0, 0, 0, 0);
        x.text(1, 0);
        x.pass(1);
        x.emergency(0);
        answers("handset: in the first call", what -> x.ofHandset(0, what), 50, 0, 1, 0, 999, 0, 0, 0, 1, 1, 0);
        x.text(1, 0);
        x.forget();
        x.turn(0, false);
        answers("handset: off", what -> x.ofHandset(0, what), 50, 0, 0, -1, 999, -1, 0, -1, 1, 1, 1);
    }

    @Says(where = "promise 17", words = "Throws `IndexOutOfBoundsException` if there is no such HANDSET")
    static void ofHandsetOfNone() {
        Handoverhouse x = onOneMast(2, 0);
        Handoverhouse none = new Handoverhouse();
        for (int asked = 0; asked <= 10; asked++) {
            int what = asked;
            Check.noSuch("ofHandset: handset", x, 2, v -> x.ofHandset(v, what));
            Check.noSuch("ofHandset: without handsets", none, 0, v -> none.ofHandset(v, what));
        }
    }

    @Says(where = "promise 17", words = "Throws `IllegalArgumentException` if what is not 0 to 10")
    static void ofHandsetOutside() {
        Handoverhouse x = onOneMast(1, 0);
        Check.outside("ofHandset: what", x, 0, 10, v -> x.ofHandset(0, v));
    }

    @Says(where = "promise 18", words = "1 whom (NONE in an EMERGENCY)")
    static void whomInEmergency() {
        Handoverhouse x = onOneMast(2, 50);
        x.emergency(0);
        Check.due("whom: none in an emergency", x.ofCall(0, 1), -1);
        Check.due("whom: no leg of that one", x.ofCall(0, 8), -1);
        x.hang(0);
        Check.due("whom: none in an ended one", x.ofCall(0, 1), -1);
        x.call(1, 0);
        Check.due("whom: the first handset is not none", x.ofCall(1, 1), 0);
        Check.due("whom: on the first mast", x.ofCall(1, 8), 0);
    }

    @Says(where = "promise 18", words = "6 0 if it goes on, how it ended: 1 HUNG up, 2 DROPPED, 3 without CREDIT, 4 PUSHED out")
    static void howItEnded() {
        Handoverhouse x = onOneMast(7, 4);
        x.emergency(0);
        Check.due("how: goes on", x.ofCall(0, 6), 0);
        x.hang(0);
        x.emergency(1);
        x.speed(1, 3);
        x.pass(20);
        x.call(2, 3);
        x.pass(5);
        x.call(4, 5);
        x.emergency(0);
        x.emergency(2);
        x.emergency(6);
        int[] due = {1, 2, 3, 4, 0, 0, 0};
        for (int c = 0; c < due.length; c++) {
            Check.due("how: call " + c, x.ofCall(c, 6), due[c]);
        }
        x.pass(9);
        for (int c = 0; c < due.length; c++) {
            Check.due("how: later, call " + c, x.ofCall(c, 6), due[c]);
        }
    }

    @Says(where = "promise 18", words = "7 the MAST of the caller's LEG (as it ended), 8 of the other one (NONE)")
    static void mastsAsItEnded() {
        Handoverhouse x = onOneMast(2, 50);
        x.call(0, 1);
        x.hang(0);
        x.mast(50, 60, 1, 4, 0, 0);
        x.pass(1);
        Check.due("as it ended: the caller went on", x.ofHandset(0, 3), 1);
        Check.due("as it ended: the caller's leg", x.ofCall(0, 7), 0);
        Check.due("as it ended: the other leg", x.ofCall(0, 8), 0);
        x.turn(0, false);
        x.wake(0, false);
        Check.due("as it ended: off, and the mast asleep", x.ofCall(0, 7), 0);
    }

    @Says(where = "promise 18", words = "Throws `IndexOutOfBoundsException` if there is no such CALL")
    static void ofCallOfNone() {
        Handoverhouse x = onOneMast(2, 50);
        Check.noSuch("ofCall: without calls", x, 0, v -> x.ofCall(v, 0));
        x.call(0, 1);
        for (int asked = 0; asked <= 8; asked++) {
            int what = asked;
            Check.noSuch("ofCall: call", x, 1, v -> x.ofCall(v, what));
        }
    }

    @Says(where = "promise 18", words = "Throws `IllegalArgumentException` if what is not 0 to 8")
    static void ofCallOutside() {
        Handoverhouse x = onOneMast(2, 50);
        x.emergency(0);
        Check.outside("ofCall: what", x, 0, 8, v -> x.ofCall(0, v));
        x.hang(0);
        Check.outside("ofCall: what of an ended one", x, 0, 8, v -> x.ofCall(0, v));
    }

    @Says(where = "promise 19", words = "13 HANDSETS that would be FOUND now")
    static void wouldBeFound() {
        Handoverhouse x = onOneMast(8, 50);
        Check.due("found: all 8", x.many(13), 8);
        x.call(0, 1);
        x.forget();
        Check.due("found: in a call, and with nothing known", x.many(13), 8);
        x.turn(7, false);
        Check.due("found: not one that is off", x.many(13), 7);
        Check.due("found: nobody is paged for that", x.many(8), 1);
        for (int area = 0; area <= 3; area++) {
            Handoverhouse carried = carriedFrom(0, area);
            Check.due("found: from area 0 to " + area, carried.many(13), area <= 1 ? 1 : 0);
            Handoverhouse back = carriedFrom(3, area);
            Check.due("found: from area 3 to " + area, back.many(13), area >= 2 ? 1 : 0);
        }
    }

    /** The register knows the first area; the emergency went on to a mast of the other one. */
    private static Handoverhouse carriedFrom(int area, int other) {
        Handoverhouse x = new Handoverhouse();
        x.mast(50, 30, 0, 4, area, 0);
        x.handset(0, 50, 0, 0);
        x.pass(1);
        x.emergency(0);
        x.mast(50, 32, 1, 4, other, 0);
        x.pass(2);
        Check.due("carried", x.ofHandset(0, 3), 1);
        return x;
    }

    @Says(where = "promise 19", words = "14 PLACES at which a MAST is HEARD with a QUALITY of 5 or more")
    static void heardWell() {
        Handoverhouse x = new Handoverhouse();
        Check.due("heard well: nowhere", x.many(14), 0);
        x.mast(0, 10, 0, 4, 0, 0);
        Check.due("heard well: 0 to 5", x.many(14), 6);
        x.mast(99, 10, 1, 4, 0, 0);
        Check.due("heard well: 94 to 99 too", x.many(14), 12);
        x.mast(99, 60, 2, 4, 0, 0);
        Check.due("heard well: 44 to 99", x.many(14), 6 + 56);
        x.mast(0, 60, 2, 4, 0, 0);
        x.wake(2, false);
        Check.due("heard well: 0 to 55, and 94 to 99", x.many(14), 56 + 6);
        x.mast(50, 60, 0, 4, 0, 0);
        Check.due("heard well: everywhere", x.many(14), 100);
        for (int m = 0; m < 4; m++) {
            x.wake(m, false);
        }
        Check.due("heard well: one for all", x.many(14), 100);
        x.wake(4, false);
        Check.due("heard well: all asleep", x.many(14), 0);
    }

    @Says(where = "promise 19", words = "3 CALLS ever, 4 CALLS that go on, 5 DROPPED ones")
    static void callsThatGoOn() {
        Handoverhouse x = new Handoverhouse();
        x.mast(0, 10, 0, 4, 0, 0);
        x.mast(99, 10, 1, 4, 0, 0);
        for (int h = 0; h < 8; h++) {
            x.handset(0, h < 4 ? 0 : 99, 0, 0);
        }
        x.pass(1);
        for (int h = 0; h < 8; h++) {
            x.emergency(h);
            Check.due("calls: go on", x.many(4), h + 1);
            x.speed(h, h < 4 ? 3 : -3);
        }
        x.pass(3);
        Check.due("calls: ever", x.many(3), 8);
        Check.due("calls: none goes on", x.many(4), 0);
        Check.due("calls: all were dropped", x.many(5), 8);
        x.speed(0, -3);
        x.pass(3);
        x.emergency(0);
        x.hang(8);
        Check.due("calls: a hung up one is not dropped", x.many(5), 8);
        Check.due("calls: but one ever", x.many(3), 9);
    }

    @Says(where = "promise 19", words = "6 HANDOVERS, 7 PING-PONGS, 8 PAGES, 9 TEXTS ever, 10 TEXTS that wait, 11 UPDATES, 12 all that was paid")
    static void sumsOfAll() {
        Handoverhouse x = onOneMast(1, 50);
        x.emergency(0);
        x.mast(50, 32, 1, 4, 0, 0);
        x.pass(2);
        x.mast(50, 20, 1, 4, 0, 0);
        x.pass(2);
        x.hang(0);
        x.wake(2, false);
        x.emergency(0);
        x.pass(2);
        x.wake(2, true);
        x.pass(2);
        Check.due("sums: handovers of both", x.many(6), x.ofCall(0, 4) + x.ofCall(1, 4));
        Check.due("sums: handovers", x.many(6), 4);
        Check.due("sums: ping-pongs", x.many(7), 2);
        Handoverhouse y = onOneMast(8, 20);
        for (int h = 1; h < 8; h++) {
            y.text(0, h);
        }
        y.turn(7, false);
        y.call(0, 1);
        y.pass(2);
        y.hang(0);
        y.call(2, 3);
        y.pass(3);
        Check.due("sums: paid in both", y.many(12), 2 + 3);
        Check.due("sums: pages", y.many(8), 2);
        Check.due("sums: texts ever", y.many(9), 7);
        Check.due("sums: texts that wait", y.many(10), 1);
        Check.due("sums: updates", y.many(11), 8);
        y.text(1, 0);
        Check.due("sums: one more that waits", y.many(10), 2);
    }

    @Says(where = "promise 19", words = "Throws `IllegalArgumentException` if what is not 0 to 14")
    static void manyOutside() {
        Handoverhouse x = onOneMast(1, 0);
        Check.outside("many: what", x, 0, 14, v -> x.many(v));
    }

    @Says(where = "promise 20", words = "Returns the mean of SECONDS of CALLS that ended, not cut; 0 without any.")
    static void meanNotCut() {
        Handoverhouse x = onOneMast(3, 2);
        Check.due("mean: without calls", x.meanSeconds(), 0.0);
        x.emergency(0);
        x.pass(7);
        Check.due("mean: none has ended", x.meanSeconds(), 0.0);
        x.emergency(1);
        Check.due("mean: of 0 seconds", x.hang(1), 0);
        Check.due("mean: one of 0", x.meanSeconds(), 0.0);
        x.hang(0);
        Check.due("mean: 0 and 7", x.meanSeconds(), 3.5);
        x.top(0, 1);
        x.call(0, 1);
        x.pass(4);
        Check.due("mean: without credit too", x.meanSeconds(), 10.0 / 3.0);
        x.top(0, 3);
        x.call(0, 1);
        x.emergency(2);
        x.emergency(2);
        x.pass(3);
        Check.due("mean: not of those that go on", x.meanSeconds(), 10.0 / 3.0);
    }
}
