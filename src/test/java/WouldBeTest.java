/** Promises 21 to 24: endsIn, wouldBeOn, bestPlace, digest. */
public final class WouldBeTest {
    public static void main(String[] args) {
        endsIn();
        endsInRefused();
        wouldBeOn();
        wouldBeOnRefused();
        nothingIsChanged();
        bestPlace();
        bestPlaceWithNoise();
        bestPlaceRefused();
        digestOfNothing();
        digest();
        Check.end();
    }

    private static Handoverhouse inCall() {
        Handoverhouse x = new Handoverhouse();
        x.mast(10, 60, 0, 4, 0, 0);
        x.handset(0, 10, 0, 10);
        x.handset(0, 10, 0, 10);
        x.pass(1);
        x.call(0, 1);
        return x;
    }

    private static void endsIn() {
        Handoverhouse x = inCall();
        Check.due("endsIn: not in 10", x.endsIn(0, 10), -1);
        Check.due("endsIn: in 11", x.endsIn(0, 11), 11);
        Check.due("endsIn: not in 1", x.endsIn(0, 1), -1);
        Check.due("endsIn: within 99", x.endsIn(0, 99), 11);
        x.pass(10);
        Check.due("endsIn: in 1", x.endsIn(0, 1), 1);
        Check.due("endsIn: it did not end by that", x.ofCall(0, 6), 0);
        x.pass(1);
        Check.due("endsIn: has ended", x.endsIn(0, 5), 0);
        x.emergency(0);
        Check.due("endsIn: an emergency", x.endsIn(1, 99), -1);
        x.speed(0, 3);
        Check.due("endsIn: one that is dropped", x.endsIn(1, 99), 22);
    }

    private static void endsInRefused() {
        Handoverhouse x = inCall();
        Check.noNumber("endsIn: call -1", x, () -> x.endsIn(-1, 1));
        Check.noNumber("endsIn: call 1", x, () -> x.endsIn(1, 1));
        Check.noNumber("endsIn: both wrong", x, () -> x.endsIn(1, 0));
        Check.noArgument("endsIn: 0 seconds", x, () -> x.endsIn(0, 0));
        Check.noArgument("endsIn: 100 seconds", x, () -> x.endsIn(0, 100));
        x.hang(0);
        Check.noArgument("endsIn: ended, 0 seconds", x, () -> x.endsIn(0, 0));
        Check.noArgument("endsIn: ended, 100 seconds", x, () -> x.endsIn(0, 100));
    }

    private static void wouldBeOn() {
        Handoverhouse x = new Handoverhouse();
        x.mast(0, 20, 0, 4, 0, 0);
        x.mast(60, 20, 1, 4, 0, 0);
        x.handset(0, 2, 3, 10);
        Check.due("wouldBeOn: now", x.wouldBeOn(0, 0), -1);
        Check.due("wouldBeOn: in 5", x.wouldBeOn(0, 5), 0);
        Check.due("wouldBeOn: in 6", x.wouldBeOn(0, 6), -1);
        Check.due("wouldBeOn: in 13", x.wouldBeOn(0, 13), 1);
        Check.due("wouldBeOn: in 99", x.wouldBeOn(0, 99), -1);
        x.pass(5);
        Check.due("wouldBeOn: then", x.ofHandset(0, 3), 0);
        Check.due("wouldBeOn: now on it", x.wouldBeOn(0, 0), 0);
        x.turn(0, false);
        Check.due("wouldBeOn: off", x.wouldBeOn(0, 8), -1);
        x.turn(0, true);
        x.speed(0, -3);
        x.pass(1);
        x.emergency(0);
        x.speed(0, 3);
        Check.due("wouldBeOn: in a call", x.wouldBeOn(0, 3), 0);
    }

    private static void wouldBeOnRefused() {
        Handoverhouse x = inCall();
        Check.noNumber("wouldBeOn: handset -1", x, () -> x.wouldBeOn(-1, 1));
        Check.noNumber("wouldBeOn: handset 2", x, () -> x.wouldBeOn(2, 1));
        Check.noNumber("wouldBeOn: both wrong", x, () -> x.wouldBeOn(2, 100));
        Check.noArgument("wouldBeOn: -1 seconds", x, () -> x.wouldBeOn(0, -1));
        Check.noArgument("wouldBeOn: 100 seconds", x, () -> x.wouldBeOn(0, 100));
    }

    private static void nothingIsChanged() {
        Handoverhouse asked = inCall();
        Handoverhouse quiet = inCall();
        asked.endsIn(0, 99);
        asked.wouldBeOn(1, 99);
        asked.bestPlace(60, 0);
        asked.digest();
        Check.due("nothing is changed: digest", asked.digest(), quiet.digest());
        asked.pass(5);
        quiet.pass(5);
        Check.due("nothing is changed: digest later", asked.digest(), quiet.digest());
    }

    private static void bestPlace() {
        Handoverhouse x = new Handoverhouse();
        Check.due("bestPlace: on an empty road", x.bestPlace(10, 0), 5);
        Check.due("bestPlace: as much as there is", x.bestPlace(60, 2), 44);
        x.mast(0, 14, 1, 4, 0, 0);
        Check.due("bestPlace: beside the one there is", x.bestPlace(10, 0), 15);
        x.wake(0, false);
        Check.due("bestPlace: one asleep", x.bestPlace(10, 0), 5);
        x.wake(0, true);
        for (int m = 1; m < 6; m++) {
            Check.due("bestPlace: room for one more", x.bestPlace(10, 0) >= 0, true);
            x.mast(0, 14, 1, 4, 0, 0);
        }
        Check.due("bestPlace: there are 6", x.bestPlace(10, 0), -1);
    }

    /** Asked, and then tried out at every place, mast by mast. */
    private static void bestPlaceWithNoise() {
        for (int frequency = 0; frequency <= 2; frequency++) {
            for (int power = 10; power <= 60; power += 10) {
                int best = -1;
                int most = -1;
                for (int place = 0; place < 100; place++) {
                    Handoverhouse tried = noisy();
                    tried.mast(place, power, frequency, 1, 0, 0);
                    if (tried.many(14) > most) {
                        most = tried.many(14);
                        best = place;
                    }
                }
                Check.due("bestPlace: " + power + ", " + frequency, noisy().bestPlace(power, frequency), best);
            }
        }
    }

    private static Handoverhouse noisy() {
        Handoverhouse x = new Handoverhouse();
        x.mast(20, 30, 0, 4, 0, 0);
        x.mast(35, 25, 0, 4, 0, 0);
        x.mast(70, 40, 1, 4, 0, 0);
        x.mast(90, 60, 2, 4, 0, 0);
        x.wake(3, false);
        x.handset(0, 20, 0, 10);
        x.handset(0, 70, 0, 10);
        x.pass(1);
        x.call(0, 1);
        return x;
    }

    private static void bestPlaceRefused() {
        Handoverhouse x = new Handoverhouse();
        for (int m = 0; m <= 6; m++) {
            Check.noArgument("bestPlace: power 9", x, () -> x.bestPlace(9, 0));
            Check.noArgument("bestPlace: power 61", x, () -> x.bestPlace(61, 0));
            Check.noArgument("bestPlace: frequency -1", x, () -> x.bestPlace(10, -1));
            Check.noArgument("bestPlace: frequency 3", x, () -> x.bestPlace(10, 3));
            if (m < 6) {
                x.mast(m, 10, 0, 1, 0, 0);
            }
        }
    }

    private static void digestOfNothing() {
        long d = 58188;
        for (int what = 0; what <= 14; what++) {
            d = d * 31;
        }
        d = d * 31 - 1;
        d = d * 31 - 1;
        d = d * 31 + 25;
        Check.due("digest: of a new object", new Handoverhouse().digest(), d);
    }

    private static void digest() {
        Handoverhouse x = noisy();
        x.emergency(0);
        x.hang(0);
        x.emergency(1);
        x.pass(3);
        long d = 58188;
        for (int what = 0; what <= 14; what++) {
            d = d * 31 + x.many(what);
        }
        for (int m = 0; m < x.many(1); m++) {
            for (int what = 0; what <= 9; what++) {
                d = d * 31 + x.ofMast(m, what);
            }
            d = d * 31 + x.quality(m, 0);
            d = d * 31 + x.quality(m, 50);
        }
        for (int h = 0; h < x.many(2); h++) {
            for (int what = 0; what <= 10; what++) {
                d = d * 31 + x.ofHandset(h, what);
            }
            d = d * 31 + x.wouldBeOn(h, 8);
        }
        for (int c = 0; c < x.many(3); c++) {
            for (int what = 0; what <= 8; what++) {
                d = d * 31 + x.ofCall(c, what);
            }
            d = d * 31 + x.endsIn(c, 20);
        }
        d = d * 31 + x.best(33);
        d = d * 31 + x.best(66);
        d = d * 31 + x.bestPlace(30, 1);
        Check.due("digest", x.digest(), d);
    }
}
