/** Promises 14 to 20: quality, best, ofMast, ofHandset, ofCall, many, meanSeconds. */
public final class AskedTest {
    public static void main(String[] args) {
        quality();
        noise();
        qualityRefused();
        best();
        ofMast();
        ofHandset();
        ofCall();
        many();
        found();
        placesHeardWell();
        meanSeconds();
        Check.end();
    }

    private static void quality() {
        Handoverhouse x = new Handoverhouse();
        x.mast(50, 30, 0, 4, 0, 0);
        Check.due("quality: there", x.quality(0, 50), 30);
        Check.due("quality: below", x.quality(0, 0), -20);
        Check.due("quality: above", x.quality(0, 99), -19);
        x.handset(0, 50, 0, 10);
        x.handset(0, 50, 0, 10);
        x.pass(1);
        Check.due("quality: handsets that camp are no load", x.quality(0, 50), 30);
        x.call(0, 1);
        Check.due("quality: two legs", x.quality(0, 50), 26);
        x.hang(0);
        Check.due("quality: no legs", x.quality(0, 50), 30);
        x.wake(0, false);
        Check.due("quality: asleep", x.quality(0, 50), -99);
    }

    private static void noise() {
        Handoverhouse x = new Handoverhouse();
        x.mast(50, 30, 1, 4, 0, 0);
        x.mast(60, 21, 1, 4, 0, 1);
        x.mast(40, 22, 1, 4, 0, 1);
        Check.due("noise: each rounded down", x.quality(0, 50), 30 - 11 / 3 - 12 / 3);
        Check.due("noise: one far away makes none", x.quality(0, 61), 30 - 11 - 20 / 3 - 1 / 3);
        Check.due("noise: none at its end", x.quality(0, 62), 30 - 12 - 19 / 3);
        Check.due("noise: none below zero", x.quality(0, 90), 30 - 40);
        x.mast(50, 60, 2, 4, 0, 0);
        Check.due("noise: not of another frequency", x.quality(0, 50), 23);
        Check.due("noise: none for another frequency", x.quality(3, 50), 60);
        x.wake(1, false);
        Check.due("noise: not of one asleep", x.quality(0, 50), 26);
    }

    private static void qualityRefused() {
        Handoverhouse x = new Handoverhouse();
        x.mast(50, 30, 1, 4, 0, 0);
        Check.noNumber("quality: mast -1", x, () -> x.quality(-1, 0));
        Check.noNumber("quality: mast 1", x, () -> x.quality(1, 0));
        Check.noNumber("quality: both wrong", x, () -> x.quality(1, 100));
        Check.noArgument("quality: place -1", x, () -> x.quality(0, -1));
        Check.noArgument("quality: place 100", x, () -> x.quality(0, 100));
    }

    private static void best() {
        Handoverhouse x = new Handoverhouse();
        x.mast(10, 20, 0, 4, 0, 0);
        x.mast(30, 20, 1, 4, 0, 1);
        Check.due("best: near the first", x.best(10), 0);
        Check.due("best: the smaller of two", x.best(20), 0);
        Check.due("best: near the second", x.best(21), 1);
        Check.due("best: quality 1", x.best(49), 1);
        Check.due("best: quality 0", x.best(50), -1);
        x.wake(0, false);
        Check.due("best: not one asleep", x.best(10), -1);
        Check.noArgument("best: place -1", x, () -> x.best(-1));
        Check.noArgument("best: place 100", x, () -> x.best(100));
    }

    private static void ofMast() {
        Handoverhouse x = new Handoverhouse();
        x.mast(10, 20, 2, 4, 3, 1);
        x.handset(0, 10, 0, 10);
        x.handset(0, 10, 0, 10);
        x.handset(0, 10, 0, 10);
        x.handset(0, 90, 0, 10);
        x.pass(1);
        Check.due("ofMast: camp", x.ofMast(0, 8), 3);
        x.call(0, 1);
        x.pass(2);
        int[] due = {10, 20, 2, 4, 3, 1, 1, 2, 1, 4};
        for (int what = 0; what <= 9; what++) {
            Check.due("ofMast: " + what, x.ofMast(0, what), due[what]);
        }
        x.hang(0);
        x.wake(0, false);
        Check.due("ofMast: asleep", x.ofMast(0, 6), 0);
        Check.due("ofMast: carried ever", x.ofMast(0, 9), 4);
        Check.noNumber("ofMast: mast -1", x, () -> x.ofMast(-1, 0));
        Check.noNumber("ofMast: mast 1", x, () -> x.ofMast(1, 0));
        Check.noNumber("ofMast: both wrong", x, () -> x.ofMast(1, 10));
        Check.noArgument("ofMast: what -1", x, () -> x.ofMast(0, -1));
        Check.noArgument("ofMast: what 10", x, () -> x.ofMast(0, 10));
    }

    private static void ofHandset() {
        Handoverhouse x = new Handoverhouse();
        x.mast(10, 20, 2, 4, 3, 0);
        x.handset(0, 8, 1, 10);
        x.handset(0, 10, 0, 10);
        x.pass(1);
        x.emergency(1);
        x.call(1, 0);
        x.text(1, 0);
        x.pass(1);
        x.hang(0);
        x.call(0, 1);
        x.text(1, 0);
        x.text(1, 0);
        x.forget();
        int[] due = {10, 1, 1, 0, 10, -1, 3, 1, 1, 1, 2};
        for (int what = 0; what <= 10; what++) {
            Check.due("ofHandset: " + what, x.ofHandset(0, what), due[what]);
        }
        Check.noNumber("ofHandset: handset -1", x, () -> x.ofHandset(-1, 0));
        Check.noNumber("ofHandset: handset 2", x, () -> x.ofHandset(2, 0));
        Check.noNumber("ofHandset: both wrong", x, () -> x.ofHandset(2, 11));
        Check.noArgument("ofHandset: what -1", x, () -> x.ofHandset(0, -1));
        Check.noArgument("ofHandset: what 11", x, () -> x.ofHandset(0, 11));
    }

    private static void ofCall() {
        Handoverhouse x = new Handoverhouse();
        x.mast(10, 30, 0, 4, 0, 1);
        x.mast(80, 30, 1, 4, 0, 1);
        x.handset(0, 80, 0, 30);
        x.handset(0, 10, 0, 30);
        x.pass(1);
        x.call(0, 1);
        x.pass(2);
        int[] due = {0, 1, 2, 6, 0, 0, 0, 1, 0};
        for (int what = 0; what <= 8; what++) {
            Check.due("ofCall: " + what, x.ofCall(0, what), due[what]);
        }
        x.hang(0);
        x.turn(0, false);
        x.turn(1, false);
        Check.due("ofCall: the mast as it ended", x.ofCall(0, 7), 1);
        Check.due("ofCall: the other mast as it ended", x.ofCall(0, 8), 0);
        Check.noNumber("ofCall: call -1", x, () -> x.ofCall(-1, 0));
        Check.noNumber("ofCall: call 1", x, () -> x.ofCall(1, 0));
        Check.noNumber("ofCall: both wrong", x, () -> x.ofCall(1, 9));
        Check.noArgument("ofCall: what -1", x, () -> x.ofCall(0, -1));
        Check.noArgument("ofCall: what 9", x, () -> x.ofCall(0, 9));
    }

    private static void many() {
        Handoverhouse x = new Handoverhouse();
        x.mast(50, 30, 0, 4, 0, 0);
        x.handset(0, 50, 0, 30);
        x.handset(0, 50, 0, 30);
        x.handset(0, 50, 0, 30);
        x.handset(0, 98, 0, 30);
        x.pass(1);
        x.call(0, 1);
        x.pass(4);
        x.hang(0);
        x.emergency(2);
        x.text(2, 3);
        x.text(2, 1);
        x.pass(1);
        int[] due = {6, 1, 4, 2, 1, 0, 0, 0, 1, 2, 1, 3, 4, 3, 47};
        for (int what = 0; what <= 14; what++) {
            Check.due("many: " + what, x.many(what), due[what]);
        }
        Check.noArgument("many: -1", x, () -> x.many(-1));
        Check.noArgument("many: 15", x, () -> x.many(15));
    }

    private static void found() {
        Handoverhouse x = new Handoverhouse();
        x.mast(10, 30, 0, 4, 0, 0);
        x.handset(0, 10, 0, 30);
        x.handset(0, 90, 0, 30);
        Check.due("found: on none", x.many(13), 0);
        x.pass(1);
        Check.due("found: in its area", x.many(13), 1);
        x.emergency(0);
        Check.due("found: in a call", x.many(13), 1);
        x.hang(0);
        x.turn(0, false);
        Check.due("found: off", x.many(13), 0);
        Check.due("found: nobody is paged", x.many(8), 0);
        x.turn(0, true);
        x.pass(1);
        x.forget();
        Check.due("found: forgotten", x.many(13), 1);
    }

    private static void placesHeardWell() {
        Handoverhouse x = new Handoverhouse();
        x.mast(50, 10, 0, 4, 0, 0);
        Check.due("heard well: 5 to each side", x.many(14), 11);
        x.mast(0, 10, 1, 4, 0, 0);
        Check.due("heard well: at the end", x.many(14), 17);
        x.mast(50, 10, 0, 4, 0, 0);
        Check.due("heard well: noise", x.many(14), 6 + 7);
        x.wake(1, false);
        Check.due("heard well: asleep", x.many(14), 7);
    }

    private static void meanSeconds() {
        Handoverhouse x = new Handoverhouse();
        x.mast(50, 60, 0, 4, 0, 0);
        x.handset(0, 50, 0, 3);
        x.handset(0, 50, 0, 30);
        x.pass(1);
        x.emergency(0);
        x.pass(2);
        Check.due("mean: none has ended", x.meanSeconds(), 0.0);
        x.hang(0);
        Check.due("mean: one", x.meanSeconds(), 2.0);
        x.call(0, 1);
        x.pass(5);
        Check.due("mean: of any end, not cut", x.meanSeconds(), 2.5);
        x.emergency(0);
        x.pass(9);
        Check.due("mean: not of one that goes on", x.meanSeconds(), 2.5);
        x.emergency(1);
        x.hang(3);
        Check.due("mean: a third", x.meanSeconds(), 5.0 / 3.0);
    }
}
