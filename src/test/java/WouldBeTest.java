/** Promises 21 to 24: endsIn, wouldBeOn, bestPlace, digest. */
public final class WouldBeTest {
    public static void main(String[] args) {
        endsIn();
        endsInAsItStands();
        endsInByOperator();
        endsInRefused();
        wouldBeOn();
        wouldBeOnRefused();
        nothingIsChanged();
        bestPlace();
        bestPlaceWithNoise();
        bestPlaceRefused();
        digestOfNothing();
        digest();
        digestAsksTheRightOnes();
        Check.end();
    }

    private static Handoverhouse inCall() {
        Handoverhouse x = new Handoverhouse();
        x.mast(10, 60, 0, 4, 0, 0);
        x.handset(0, 10, 0, 10);
        x.handset(0, 10, 0, 10);
        x.pass(1);
        x.call(0, 1);
        return x;
    }

    private static void endsIn() {
        Handoverhouse x = inCall();
        Check.due("endsIn: not in 10", x.endsIn(0, 10), -1);
        Check.due("endsIn: in 11", x.endsIn(0, 11), 11);
        Check.due("endsIn: not in 1", x.endsIn(0, 1), -1);
        Check.due("endsIn: within 99", x.endsIn(0, 99), 11);
        x.pass(10);
        Check.due("endsIn: in 1", x.endsIn(0, 1), 1);
        Check.due("endsIn: it did not end by that", x.ofCall(0, 6), 0);
        x.pass(1);
        Check.due("endsIn: has ended", x.endsIn(0, 5), 0);
        x.emergency(0);
        Check.due("endsIn: an emergency", x.endsIn(1, 99), -1);
        x.speed(0, 3);
        Check.due("endsIn: one that is dropped", x.endsIn(1, 99), 22);
    }

    /** What has been waited, and how long it was bad, counts for what would be. */
    private static void endsInAsItStands() {
        Handoverhouse x = new Handoverhouse();
        x.mast(10, 20, 0, 4, 0, 0);
        x.handset(0, 10, 0, 10);
        x.pass(1);
        x.emergency(0);
        x.mast(10, 22, 1, 4, 0, 0);
        Check.due("as it stands: not in 1", x.wouldBeOn(0, 1), 0);
        Check.due("as it stands: in 2", x.wouldBeOn(0, 2), 1);
        x.pass(1);
        Check.due("as it stands: then in 1", x.wouldBeOn(0, 1), 1);
        x.wake(1, false);
        x.speed(0, 3);
        x.pass(5);
        Check.due("as it stands: ends in 3", x.endsIn(0, 9), 3);
        x.pass(1);
        Check.due("as it stands: ends in 2", x.endsIn(0, 9), 2);
        x.pass(1);
        Check.due("as it stands: ends in 1", x.endsIn(0, 9), 1);
    }

    private static void endsInByOperator() {
        Handoverhouse x = new Handoverhouse();
        x.mast(10, 60, 0, 4, 0, 1);
        x.handset(0, 10, 0, 9);
        x.handset(1, 10, 0, 9);
        x.pass(1);
        x.call(0, 1);
        Check.due("by operator: another one", x.endsIn(0, 20), 4);
        x.hang(0);
        x.call(1, 0);
        Check.due("by operator: its own", x.endsIn(1, 20), 10);
    }

    private static void endsInRefused() {
        Handoverhouse x = inCall();
        Check.noNumber("endsIn: call -1", x, () -> x.endsIn(-1, 1));
        Check.noNumber("endsIn: call 1", x, () -> x.endsIn(1, 1));
        Check.noNumber("endsIn: both wrong", x, () -> x.endsIn(1, 0));
        Check.noArgument("endsIn: 0 seconds", x, () -> x.endsIn(0, 0));
        Check.noArgument("endsIn: 100 seconds", x, () -> x.endsIn(0, 100));
        x.hang(0);
        Check.noArgument("endsIn: ended, 0 seconds", x, () -> x.endsIn(0, 0));
        Check.noArgument("endsIn: ended, 100 seconds", x, () -> x.endsIn(0, 100));
    }

    private static void wouldBeOn() {
        Handoverhouse x = new Handoverhouse();
        x.mast(0, 20, 0, 4, 0, 0);
        x.mast(60, 20, 1, 4, 0, 0);
        x.handset(0, 2, 3, 10);
        Check.due("wouldBeOn: now", x.wouldBeOn(0, 0), -1);
        Check.due("wouldBeOn: in 5", x.wouldBeOn(0, 5), 0);
        Check.due("wouldBeOn: in 6", x.wouldBeOn(0, 6), -1);
        Check.due("wouldBeOn: in 13", x.wouldBeOn(0, 13), 1);
        Check.due("wouldBeOn: in 99", x.wouldBeOn(0, 99), -1);
        x.pass(5);
        Check.due("wouldBeOn: then", x.ofHandset(0, 3), 0);
        Check.due("wouldBeOn: now on it", x.wouldBeOn(0, 0), 0);
        x.turn(0, false);
        Check.due("wouldBeOn: off", x.wouldBeOn(0, 8), -1);
        x.turn(0, true);
        x.speed(0, -3);
        x.pass(1);
        x.emergency(0);
        x.speed(0, 3);
        Check.due("wouldBeOn: in a call", x.wouldBeOn(0, 3), 0);
    }

    private static void wouldBeOnRefused() {
        Handoverhouse x = inCall();
        Check.noNumber("wouldBeOn: handset -1", x, () -> x.wouldBeOn(-1, 1));
        Check.noNumber("wouldBeOn: handset 2", x, () -> x.wouldBeOn(2, 1));
        Check.noNumber("wouldBeOn: both wrong", x, () -> x.wouldBeOn(2, 100));
        Check.noArgument("wouldBeOn: -1 seconds", x, () -> x.wouldBeOn(0, -1));
        Check.noArgument("wouldBeOn: 100 seconds", x, () -> x.wouldBeOn(0, 100));
    }

    private static void nothingIsChanged() {
        Handoverhouse asked = inCall();
        Handoverhouse quiet = inCall();
        asked.endsIn(0, 99);
        asked.wouldBeOn(1, 99);
        asked.bestPlace(60, 0);
        asked.digest();
        Check.due("nothing is changed: digest", asked.digest(), quiet.digest());
        asked.pass(5);
        quiet.pass(5);
        Check.due("nothing is changed: digest later", asked.digest(), quiet.digest());
    }

    private static void bestPlace() {
        Handoverhouse x = new Handoverhouse();
        Check.due("bestPlace: on an empty road", x.bestPlace(10, 0), 5);
        Check.due("bestPlace: as much as there is", x.bestPlace(60, 2), 44);
        x.mast(0, 14, 1, 4, 0, 0);
        Check.due("bestPlace: beside the one there is", x.bestPlace(10, 0), 15);
        x.wake(0, false);
        Check.due("bestPlace: one asleep", x.bestPlace(10, 0), 5);
        x.wake(0, true);
        for (int m = 1; m < 6; m++) {
            Check.due("bestPlace: room for one more", x.bestPlace(10, 0) >= 0, true);
            x.mast(0, 14, 1, 4, 0, 0);
        }
        Check.due("bestPlace: there are 6", x.bestPlace(10, 0), -1);
    }

    /** Asked, and then tried out at every place with a mast more. */
    private static void bestPlaceWithNoise() {
        for (int road = 0; road < 6; road++) {
            for (int frequency = 0; frequency <= 2; frequency++) {
                for (int power = 10; power <= 60; power += 7) {
                    String what = "bestPlace: " + road + ", " + power + ", " + frequency;
                    Check.due(what, noisy(road).bestPlace(power, frequency), triedPlace(road, power, frequency));
                }
            }
        }
    }

    private static int triedPlace(int road, int power, int frequency) {
        int best = -1;
        int most = -1;
        for (int place = 0; place < 100; place++) {
            Handoverhouse tried = noisy(road);
            tried.mast(place, power, frequency, 1, 0, 0);
            if (tried.many(14) > most) {
                most = tried.many(14);
                best = place;
            }
        }
        return best;
    }

    private static Handoverhouse noisy(int road) {
        Handoverhouse x = new Handoverhouse();
        x.mast(20 + 3 * road, 30 - 2 * road, 0, 4, 0, 0);
        x.mast(45 + road, 25 + 4 * road, road % 3, 4, 0, 0);
        x.mast(70 - 5 * road, 15 + 3 * road, 1, 4, 0, 0);
        x.mast(90, 60, 2, 4, 0, 0);
        x.wake(3, false);
        x.handset(0, 20, 0, 10);
        x.handset(0, 70, 0, 10);
        x.pass(1);
        x.call(0, 1);
        return x;
    }

    private static void bestPlaceRefused() {
        Handoverhouse x = new Handoverhouse();
        for (int m = 0; m <= 6; m++) {
            Check.noArgument("bestPlace: power 9", x, () -> x.bestPlace(9, 0));
            Check.noArgument("bestPlace: power 61", x, () -> x.bestPlace(61, 0));
            Check.noArgument("bestPlace: frequency -1", x, () -> x.bestPlace(10, -1));
            Check.noArgument("bestPlace: frequency 3", x, () -> x.bestPlace(10, 3));
            if (m < 6) {
                x.mast(m, 10, 0, 1, 0, 0);
            }
        }
    }

    private static void digestOfNothing() {
        long d = 58188;
        for (int what = 0; what <= 14; what++) {
            d = d * 31;
        }
        d = d * 31 - 1;
        d = d * 31 - 1;
        d = d * 31 + 25;
        Check.due("digest: of a new object", new Handoverhouse().digest(), d);
    }

    private static void digest() {
        for (int road = 0; road < 6; road++) {
            Handoverhouse x = noisy(road);
            x.emergency(0);
            x.hang(0);
            x.emergency(1);
            x.text(0, 1);
            x.speed(1, 2);
            x.pass(3);
            Check.due("digest: " + road, x.digest(), digestOf(x));
        }
    }

    /** Answers that differ from those beside them, so that a digest of others would show. */
    private static void digestAsksTheRightOnes() {
        Handoverhouse x = new Handoverhouse();
        x.mast(3, 21, 0, 4, 0, 0);
        x.mast(64, 31, 1, 4, 0, 0);
        x.handset(0, 0, 3, 10);
        x.handset(0, 3, 0, 21);
        x.handset(0, 3, 0, 21);
        x.pass(1);
        x.speed(0, 2);
        x.call(1, 2);
        x.pass(1);
        Check.due("right ones: ends in 20", x.endsIn(0, 20) != x.endsIn(0, 21), true);
        while (x.wouldBeOn(0, 8) == x.wouldBeOn(0, 9)) {
            x.pass(1);
        }
        Check.due("right ones", x.digest(), digestOf(x));
        Handoverhouse edges = new Handoverhouse();
        edges.mast(13, 21, 0, 4, 0, 0);
        edges.mast(46, 21, 2, 4, 0, 0);
        edges.mast(86, 21, 1, 4, 0, 0);
        edges.wake(1, false);
        Check.due("right ones: best of 33", edges.best(33) != edges.best(34), true);
        Check.due("right ones: best of 66", edges.best(66) != edges.best(65), true);
        Check.due("right ones: edges", edges.digest(), digestOf(edges));
        edges.wake(1, true);
        Check.due("right ones: best of 66 and 67", edges.best(66) != edges.best(67), true);
        Check.due("right ones: a third mast", edges.digest(), digestOf(edges));
    }

    /** The document's sum, from the object's own answers. */
    private static long digestOf(Handoverhouse x) {
        long d = 58188;
        for (int what = 0; what <= 14; what++) {
            d = d * 31 + x.many(what);
        }
        for (int m = 0; m < x.many(1); m++) {
            for (int what = 0; what <= 9; what++) {
                d = d * 31 + x.ofMast(m, what);
            }
            d = d * 31 + x.quality(m, 0);
            d = d * 31 + x.quality(m, 50);
        }
        for (int h = 0; h < x.many(2); h++) {
            for (int what = 0; what <= 10; what++) {
                d = d * 31 + x.ofHandset(h, what);
            }
            d = d * 31 + x.wouldBeOn(h, 8);
        }
        for (int c = 0; c < x.many(3); c++) {
            for (int what = 0; what <= 8; what++) {
                d = d * 31 + x.ofCall(c, what);
            }
            d = d * 31 + x.endsIn(c, 20);
        }
        d = d * 31 + x.best(33);
        d = d * 31 + x.best(66);
        return d * 31 + x.bestPlace(30, 1);
    }
}
