/** Section 1: what its sentences say of the smallest, the greatest, the first and the last. */
final class MastEdges {
    private MastEdges() {
    }

    private static Handoverhouse withMast(int place, int power) {
        Handoverhouse x = new Handoverhouse();
        x.mast(place, power, 0, 4, 0, 0);
        return x;
    }

    @Says(where = "terms", words = "All numbers are whole; what is divided is rounded down. NONE is -1.")
    static void wholeNumbers() {
        Handoverhouse x = withMast(50, 60);
        x.mast(50, 11, 0, 4, 0, 0);
        Check.due("11 thirds are 3", x.quality(0, 50), 57);
        Check.due("60 thirds are 20", x.quality(1, 50), 11 - 20);
        x.handset(0, 50, 0, 0);
        Check.due("NONE", x.ofHandset(0, 3), -1);
    }

    @Says(where = "section 1", words = "PLACES are 0 to 99.")
    static void places() {
        Handoverhouse x = new Handoverhouse();
        Check.due("mast at 0", x.mast(0, 30, 0, 1, 0, 0), 0);
        Check.due("mast at 99", x.mast(99, 30, 1, 1, 0, 0), 1);
        Check.due("handset at 0", x.handset(0, 0, 0, 0), 0);
        Check.due("handset at 99", x.handset(0, 99, 0, 0), 1);
        Check.due("best at 0", x.best(0), 0);
        Check.due("best at 99", x.best(99), 1);
        Check.outside("mast at", x, 0, 99, v -> x.mast(v, 30, 0, 1, 0, 0));
        Check.outside("handset at", x, 0, 99, v -> x.handset(0, v, 0, 0));
        Check.outside("quality at", x, 0, 99, v -> x.quality(0, v));
        Check.outside("best at", x, 0, 99, v -> x.best(v));
    }

    @Says(where = "section 1", words = "How far two of them are is their difference, without its sign.")
    static void far() {
        Check.due("far: 99 up", withMast(0, 60).quality(0, 99), 60 - 99);
        Check.due("far: 99 down", withMast(99, 60).quality(0, 0), 60 - 99);
        Check.due("far: 1 up", withMast(50, 60).quality(0, 51), 59);
        Check.due("far: 1 down", withMast(50, 60).quality(0, 49), 59);
        Check.due("far: there", withMast(50, 60).quality(0, 50), 60);
    }

    @Says(where = "section 1", words = "OPERATORS are 0 and 1.")
    static void operators() {
        Handoverhouse x = new Handoverhouse();
        x.mast(0, 30, 0, 1, 0, 0);
        x.mast(0, 30, 0, 1, 0, 1);
        Check.due("operator 0", x.ofMast(0, 5), 0);
        Check.due("operator 1", x.ofMast(1, 5), 1);
        Check.due("handset of 0", x.handset(0, 0, 0, 0), 0);
        Check.due("handset of 1", x.handset(1, 0, 0, 0), 1);
        Check.outside("mast of", x, 0, 1, v -> x.mast(0, 30, 0, 1, 0, v));
        Check.outside("handset of", x, 0, 1, v -> x.handset(v, 0, 0, 0));
    }

    @Says(where = "section 1", words = "MASTS: at most 6, numbered from 0")
    static void atMostSix() {
        Handoverhouse x = new Handoverhouse();
        Check.noSuch("none is told:", x, 0, v -> x.ofMast(v, 0));
        for (int m = 0; m < 6; m++) {
            Check.due("the number", x.mast(10 * m, 30, 0, 1, 0, 0), m);
            Check.noSuch("so many are told:", x, m + 1, v -> x.ofMast(v, 0));
        }
        Check.noState("the seventh", x, () -> x.mast(0, 30, 0, 1, 0, 0));
        for (int m = 0; m < 6; m++) {
            Check.due("each keeps its own place", x.ofMast(m, 0), 10 * m);
        }
        x.wake(5, false);
        Check.noState("the seventh, as one is asleep", x, () -> x.mast(0, 30, 0, 1, 0, 0));
    }

    @Says(where = "section 1", words = "with a POWER (10 to 60), a FREQUENCY (0 to 2), CHANNELS (1 to 4), an AREA (0 to 3)")
    static void leastAndMost() {
        Handoverhouse x = new Handoverhouse();
        x.mast(50, 10, 0, 1, 0, 0);
        x.mast(50, 60, 2, 4, 3, 0);
        int[] least = {50, 10, 0, 1, 0};
        int[] most = {50, 60, 2, 4, 3};
        for (int what = 0; what <= 4; what++) {
            Check.due("the least: " + what, x.ofMast(0, what), least[what]);
            Check.due("the most: " + what, x.ofMast(1, what), most[what]);
        }
        Check.outside("power", x, 10, 60, v -> x.mast(50, v, 0, 1, 0, 0));
        Check.outside("frequency", x, 0, 2, v -> x.mast(50, 10, v, 1, 0, 0));
        Check.outside("channels", x, 1, 4, v -> x.mast(50, 10, 0, v, 0, 0));
        Check.outside("area", x, 0, 3, v -> x.mast(50, 10, 0, 1, v, 0));
    }

    @Says(where = "section 1", words = "AWAKE (at first) or ASLEEP.")
    static void awakeAtFirst() {
        Handoverhouse x = withMast(50, 30);
        Check.due("awake at first", x.ofMast(0, 6), 1);
        Check.due("heard at first", x.best(50), 0);
        x.wake(0, false);
        Check.due("asleep", x.ofMast(0, 6), 0);
        x.mast(50, 30, 0, 1, 0, 0);
        Check.due("another one is awake at first", x.ofMast(1, 6), 1);
    }

    @Says(where = "section 1", words = "Its LOAD is how many LEGS of CALLS are on it.")
    static void load() {
        Handoverhouse x = withMast(50, 30);
        for (int h = 0; h < 5; h++) {
            x.handset(0, 50, 0, 50);
        }
        Check.due("load: none at first", x.ofMast(0, 7), 0);
        x.pass(1);
        Check.due("load: none of those that camp", x.ofMast(0, 7), 0);
        x.call(0, 1);
        Check.due("load: both legs", x.ofMast(0, 7), 2);
        x.emergency(2);
        Check.due("load: an emergency's leg", x.ofMast(0, 7), 3);
        x.emergency(3);
        Check.due("load: as many as channels", x.ofMast(0, 7), 4);
        x.hang(0);
        Check.due("load: none of an ended call", x.ofMast(0, 7), 2);
        x.hang(1);
        x.hang(2);
        Check.due("load: none again", x.ofMast(0, 7), 0);
    }

    @Says(where = "section 1", words = "its POWER, less how far it is, less 2 for each of its LOAD, less its NOISE there")
    static void leastQuality() {
        Handoverhouse x = withMast(0, 10);
        x.handset(0, 0, 0, 50);
        for (int h = 1; h < 4; h++) {
            x.handset(0, 0, 0, 50);
        }
        x.pass(1);
        for (int h = 0; h < 4; h++) {
            x.emergency(h);
        }
        Check.due("quality: a load of 4", x.quality(0, 0), 10 - 8);
        for (int m = 1; m < 6; m++) {
            x.mast(99, 60, 0, 4, 0, 0);
        }
        Check.due("quality: of one awake it may be below that asleep", x.quality(0, 99), 10 - 99 - 8 - 5 * 20);
    }

    @Says(where = "section 1", words = "for each other MAST that is AWAKE, and has the same FREQUENCY")
    static void noiseOfOthers() {
        Handoverhouse x = withMast(50, 60);
        Check.due("noise: none of its own", x.quality(0, 50), 60);
        x.mast(50, 60, 1, 4, 0, 0);
        Check.due("noise: none of the next frequency", x.quality(0, 50), 60);
        x.mast(50, 60, 0, 4, 0, 1);
        Check.due("noise: of the same one", x.quality(0, 50), 40);
        Check.due("noise: and of each other", x.quality(2, 50), 40);
        x.mast(50, 60, 2, 4, 0, 0);
        Check.due("noise: still of that only", x.quality(0, 50), 40);
        Check.due("noise: none on the last frequency", x.quality(3, 50), 60);
        x.wake(2, false);
        Check.due("noise: none of one asleep", x.quality(0, 50), 60);
    }

    @Says(where = "section 1", words = "a third (each rounded down) of what the POWER of that one is above how far that one is (if it is).")
    static void noiseAtItsEnd() {
        Handoverhouse x = withMast(50, 60);
        x.mast(0, 10, 0, 4, 0, 0);
        Check.due("noise: 4 above", x.quality(0, 6), 60 - 44 - 1);
        Check.due("noise: 3 above", x.quality(0, 7), 60 - 43 - 1);
        Check.due("noise: 2 above", x.quality(0, 8), 60 - 42);
        Check.due("noise: 1 above", x.quality(0, 9), 60 - 41);
        Check.due("noise: not above", x.quality(0, 10), 60 - 40);
        Check.due("noise: 1 below", x.quality(0, 11), 60 - 39);
        Check.due("noise: 3 below adds nothing", x.quality(0, 13), 60 - 37);
        Check.due("noise: 89 below adds nothing", x.quality(0, 99), 60 - 49);
        x.mast(0, 10, 0, 4, 0, 0);
        Check.due("noise: twice 2 above, each rounded", x.quality(0, 8), 60 - 42);
        Check.due("noise: twice 3 above", x.quality(0, 7), 60 - 43 - 2);
        Check.due("noise: twice 5 above, each rounded", x.quality(0, 5), 60 - 45 - 2);
    }

    @Says(where = "section 1", words = "One that is ASLEEP has QUALITY -99.")
    static void asleep() {
        Handoverhouse x = withMast(50, 60);
        x.mast(50, 60, 0, 4, 0, 0);
        x.wake(0, false);
        for (int place = 0; place <= 99; place++) {
            Check.due("asleep at " + place, x.quality(0, place), -99);
        }
        Check.due("the other one is awake", x.quality(1, 50), 60);
        Check.due("never the best", x.best(50), 1);
        x.wake(1, false);
        Check.due("all asleep", x.best(50), -1);
    }

    @Says(where = "section 1", words = "A MAST is HEARD at a PLACE, if its QUALITY there is 1 or more.")
    static void heard() {
        Handoverhouse x = withMast(50, 10);
        Check.due("heard: quality 1 below", x.best(41), 0);
        Check.due("heard: quality 1 above", x.best(59), 0);
        Check.due("heard: quality 0 below", x.best(40), -1);
        Check.due("heard: quality 0 above", x.best(60), -1);
        Check.due("heard: quality -1", x.best(39), -1);
        x.handset(0, 59, 0, 0);
        x.handset(0, 60, 0, 0);
        x.pass(1);
        Check.due("heard: camps with quality 1", x.ofHandset(0, 3), 0);
        Check.due("heard: camps not with quality 0", x.ofHandset(1, 3), -1);
    }

    @Says(where = "section 1", words = "The BEST of several is that with the greatest QUALITY, then the smallest number.")
    static void bestOfSeveral() {
        Handoverhouse x = new Handoverhouse();
        Check.due("best: of none", x.best(50), -1);
        for (int m = 0; m < 6; m++) {
            x.mast(50, 60, m % 3, 4, 0, 0);
        }
        Check.due("best: all six the same", x.best(50), 0);
        x.wake(0, false);
        Check.due("best: the one without noise", x.best(50), 3);
        x.wake(3, false);
        Check.due("best: the smallest of four", x.best(50), 1);
        Handoverhouse y = withMast(50, 30);
        y.mast(50, 29, 1, 4, 0, 0);
        y.mast(50, 31, 2, 4, 0, 0);
        Check.due("best: the greatest by 1, though the last", y.best(50), 2);
        y.wake(2, false);
        Check.due("best: the greatest by 1, the first", y.best(50), 0);
    }
}
