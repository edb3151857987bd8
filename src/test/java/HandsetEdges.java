/** Section 2: handsets at first and at most, and paging at the first and last area. */
final class HandsetEdges {
    private HandsetEdges() {
    }

    /** Masts of areas 0, 1, 2, 2, 3, 3, none of them heard where another one is. */
    private static Handoverhouse sixMasts() {
        Handoverhouse x = new Handoverhouse();
        int[] areas = {0, 1, 2, 2, 3, 3};
        for (int m = 0; m < 6; m++) {
            x.mast(19 * m, 10, 0, 4, areas[m], 0);
        }
        return x;
    }

    /** Handset 0 on the mast, handset 1 on mast 0; each has told its area. */
    private static Handoverhouse oneAt(int mast) {
        Handoverhouse x = sixMasts();
        x.handset(0, 19 * mast, 0, 50);
        x.handset(0, 0, 0, 50);
        x.pass(1);
        Check.due("one at: camps", x.ofHandset(0, 3), mast);
        return x;
    }

    @Says(where = "section 2", words = "HANDSETS: at most 8, numbered from 0")
    static void atMostEight() {
        Handoverhouse x = new Handoverhouse();
        Check.noSuch("none is told:", x, 0, v -> x.ofHandset(v, 0));
        for (int h = 0; h < 8; h++) {
            Check.due("the number", x.handset(0, 10 * h, 0, 0), h);
            Check.noSuch("so many are told:", x, h + 1, v -> x.ofHandset(v, 0));
        }
        Check.noState("the ninth", x, () -> x.handset(0, 0, 0, 0));
        x.turn(7, false);
        Check.noState("the ninth, as one is off", x, () -> x.handset(0, 0, 0, 0));
        for (int h = 0; h < 8; h++) {
            Check.due("each keeps its own place", x.ofHandset(h, 0), 10 * h);
        }
    }

    @Says(where = "section 2", words = "with a SPEED (-3 to 3), a BALANCE, ON (at first) or OFF")
    static void speeds() {
        Handoverhouse x = new Handoverhouse();
        for (int speed = -3; speed <= 3; speed++) {
            x.handset(0, 50, speed, 0);
        }
        x.pass(1);
        for (int h = 0; h < 7; h++) {
            Check.due("speed", x.ofHandset(h, 0), 50 + h - 3);
            Check.due("on at first", x.ofHandset(h, 2), 1);
        }
        Check.outside("speed", x, -3, 3, v -> x.handset(0, 50, v, 0));
    }

    @Says(where = "section 2", words = "in at most one CALL.")
    static void atMostOneCall() {
        Handoverhouse x = oneAt(0);
        x.handset(0, 0, 0, 50);
        x.pass(1);
        x.call(0, 1);
        Check.due("one call: the caller calls no other", x.call(0, 2), -2);
        Check.due("one call: nor does the other one", x.call(1, 2), -2);
        Check.due("one call: nobody calls the caller", x.call(2, 0), -4);
        Check.due("one call: nobody calls the other one", x.call(2, 1), -4);
        Check.due("one call: no emergency of the caller", x.emergency(0), -2);
        Check.due("one call: no emergency of the other one", x.emergency(1), -2);
        Check.due("one call: there is one", x.many(3), 1);
    }

    @Says(where = "section 2", words = "One that is ON and in no CALL is IDLE, and camps on a MAST, or on NONE (at first)")
    static void noneAtFirst() {
        Handoverhouse x = sixMasts();
        x.handset(0, 0, 0, 50);
        Check.due("at first on none, though a mast is heard", x.ofHandset(0, 3), -1);
        Check.due("at first nobody camps", x.ofMast(0, 8), 0);
        x.pass(1);
        Check.due("then it camps", x.ofMast(0, 8), 1);
        x.emergency(0);
        Check.due("in a call it does not camp", x.ofMast(0, 8), 0);
        x.hang(0);
        x.turn(0, false);
        Check.due("off it does not camp", x.ofMast(0, 8), 0);
    }

    @Says(where = "section 2", words = "one in a CALL is on the MAST of its LEG; one that is OFF on NONE.")
    static void whereItIs() {
        Handoverhouse x = oneAt(0);
        x.call(0, 1);
        x.speed(0, 3);
        x.pass(6);
        Check.due("the caller's leg went on", x.ofCall(0, 7), 1);
        Check.due("the caller is on it", x.ofHandset(0, 3), 1);
        Check.due("the other one stays", x.ofHandset(1, 3), 0);
        x.turn(0, false);
        Check.due("off on none", x.ofHandset(0, 3), -1);
        x.pass(2);
        Check.due("off on none for good", x.ofHandset(0, 3), -1);
        Check.due("and so it would be", x.wouldBeOn(0, 99), -1);
    }

    @Says(where = "section 2", words = "The REGISTER knows an AREA of each HANDSET (NONE at first).")
    static void nothingKnownAtFirst() {
        Handoverhouse x = sixMasts();
        x.wake(1, false);
        x.handset(0, 19, 0, 50);
        x.handset(0, 0, 0, 50);
        Check.due("known at first", x.ofHandset(0, 5), -1);
        Check.due("nothing to forget", x.forget(), 0);
        x.pass(1);
        Check.due("on none: not known", x.ofHandset(0, 5), -1);
        Check.due("area 0 is known, and not none", x.ofHandset(1, 5), 0);
        Check.due("one to forget", x.forget(), 1);
    }

    @Says(where = "section 2", words = "A HANDSET keeps the AREA that it TOLD last (NONE at first), and when.")
    static void keepsWhenItTold() {
        Handoverhouse x = sixMasts();
        x.handset(0, 0, 0, 50);
        Check.due("told at first", x.ofHandset(0, 6), -1);
        x.pass(1);
        Check.due("told area 0", x.ofHandset(0, 6), 0);
        x.turn(0, false);
        Check.due("off keeps what it told", x.ofHandset(0, 6), 0);
        x.pass(9);
        x.turn(0, true);
        x.pass(10);
        Check.due("and when: 19 seconds ago", x.ofHandset(0, 8), 1);
        x.pass(1);
        Check.due("and when: 20 seconds ago", x.ofHandset(0, 8), 2);
    }

    @Says(where = "section 2", words = "first all MASTS that are AWAKE in that")
    static void firstStep() {
        int[] inArea = {1, 1, 2, 2, 2, 2};
        for (int mast = 0; mast < 6; mast++) {
            Handoverhouse x = oneAt(mast);
            Check.due("first step: found", x.call(1, 0), 0);
            Check.due("first step: pages for mast " + mast, x.many(8), inArea[mast]);
        }
        Handoverhouse x = oneAt(2);
        x.wake(3, false);
        x.call(1, 0);
        Check.due("first step: only those awake", x.many(8), 1);
    }

    @Says(where = "section 2", words = "then all others that are AWAKE in AREAS that are 1 more or less")
    static void secondStep() {
        int[] inBoth = {1 + 1, 1 + 1 + 2, 2 + 1 + 2, 2 + 1 + 2, 2 + 2, 2 + 2};
        for (int mast = 0; mast < 6; mast++) {
            Handoverhouse x = oneAt(mast);
            x.turn(0, false);
            Check.due("second step: not found", x.call(1, 0), -3);
            Check.due("second step: no area behind 3 or before 0, mast " + mast, x.many(8), inBoth[mast]);
        }
        Handoverhouse x = oneAt(1);
        x.turn(0, false);
        x.wake(1, false);
        x.wake(2, false);
        Check.due("second step: none awake in the first", x.call(1, 0), -3);
        Check.due("second step: only those awake", x.many(8), 1 + 1);
    }

    @Says(where = "section 2", words = "if it knows none, all that are AWAKE.")
    static void nothingKnown() {
        Handoverhouse x = oneAt(5);
        x.forget();
        Check.due("nothing known: found", x.call(1, 0), 0);
        Check.due("nothing known: all six", x.many(8), 6);
        x.hang(0);
        x.turn(0, false);
        for (int m = 1; m < 6; m++) {
            x.wake(m, false);
        }
        Check.due("nothing known: not found", x.call(1, 0), -3);
        Check.due("nothing known: the only one awake", x.many(8), 7);
    }

    @Says(where = "section 2", words = "It is FOUND in that step in which the MAST on which it is was PAGED; no further step is made then.")
    static void foundInItsStep() {
        for (int known = 0; known <= 3; known++) {
            for (int area = 0; area <= 3; area++) {
                Handoverhouse x = carriedOn(known, area);
                String what = "from area " + known + " on to " + area + ": ";
                int away = Math.abs(known - area);
                Check.due(what + "found", x.call(1, 0), away <= 1 ? 1 : -3);
                Check.due(what + "pages", x.many(8), away == 0 ? 3 : away == 1 ? 2 + 1 : 2);
                Check.due(what + "known is what it told", x.ofHandset(0, 5), known);
            }
        }
    }

    /** Handset 0 told the first area, was carried to a mast of the other one in an emergency, and hung up just now. */
    private static Handoverhouse carriedOn(int known, int area) {
        Handoverhouse x = new Handoverhouse();
        x.mast(0, 30, 0, 4, known, 0);
        x.mast(99, 10, 1, 4, known, 0);
        x.handset(0, 0, 0, 50);
        x.handset(0, 0, 0, 50);
        x.pass(1);
        x.emergency(0);
        x.mast(0, 32, 2, 4, area, 0);
        x.pass(2);
        x.hang(0);
        Check.due("carried on", x.ofHandset(0, 3), 2);
        return x;
    }

    @Says(where = "section 2", words = "PAGES are how many MASTS were PAGED ever.")
    static void pagesEver() {
        Handoverhouse x = oneAt(0);
        Check.due("pages at first", x.many(8), 0);
        for (int again = 1; again <= 3; again++) {
            x.call(1, 0);
            Check.due("pages of a call", x.many(8), again);
            x.hang(again - 1);
        }
        x.wake(0, false);
        Check.due("pages are not taken back", x.many(8), 3);
        x.emergency(0);
        x.text(1, 0);
        x.many(13);
        Check.due("nobody else pages", x.many(8), 3);
    }
}
