/** Section 3: each threshold of a second, on both sides of it. */
final class SecondEdges {
    private SecondEdges() {
    }

    /** Handset 0 at place 50 in an emergency on mast 0, of quality 28 with it; it is second 1. */
    private static Handoverhouse inEmergency() {
        Handoverhouse x = new Handoverhouse();
        x.mast(50, 30, 0, 4, 0, 0);
        x.handset(0, 50, 0, 0);
        x.pass(1);
        x.emergency(0);
        return x;
    }

    /** The same, so far from mast 0 (at 0, power 20) that its quality with the leg is 18 - place. */
    private static Handoverhouse inEmergencyAt(int place) {
        Handoverhouse x = new Handoverhouse();
        x.mast(0, 20, 0, 4, 0, 0);
        x.handset(0, place, 0, 0);
        x.pass(1);
        x.emergency(0);
        return x;
    }

    @Says(where = "section 3", words = "NOW is 1 more (0 at first).")
    static void now() {
        Handoverhouse x = new Handoverhouse();
        Check.due("now at first", x.many(0), 0);
        x.pass(1);
        Check.due("now behind one", x.many(0), 1);
        for (int i = 0; i < 500; i++) {
            x.pass(99);
        }
        Check.due("now behind all that can be", x.many(0), 1 + 500 * 99);
    }

    @Says(where = "section 3", words = "PLACE is SPEED more.")
    static void moves() {
        for (int speed = -3; speed <= 3; speed++) {
            Handoverhouse x = new Handoverhouse();
            x.handset(0, 50, speed, 0);
            x.pass(16);
            Check.due("moves by " + speed, x.ofHandset(0, 0), 50 + 16 * speed);
            Check.due("keeps " + speed, x.ofHandset(0, 1), speed);
        }
    }

    @Says(where = "section 3", words = "Below 0, or above 99, it turns: PLACE is as far on the other side of that end, and SPEED has the other sign.")
    static void turns() {
        int[][] placeSpeedThen = {
            {3, -3, 0, -3}, {2, -3, 1, 3}, {1, -3, 2, 3}, {0, -3, 3, 3},
            {2, -2, 0, -2}, {1, -2, 1, 2}, {0, -2, 2, 2}, {1, -1, 0, -1}, {0, -1, 1, 1},
            {0, 0, 0, 0}, {0, 1, 1, 1}, {0, 3, 3, 3},
            {96, 3, 99, 3}, {97, 3, 98, -3}, {98, 3, 97, -3}, {99, 3, 96, -3},
            {97, 2, 99, 2}, {98, 2, 98, -2}, {99, 2, 97, -2}, {98, 1, 99, 1}, {99, 1, 98, -1},
            {99, 0, 99, 0}, {99, -1, 98, -1}, {99, -3, 96, -3}};
        for (int[] t : placeSpeedThen) {
            Handoverhouse x = new Handoverhouse();
            x.handset(0, t[0], t[1], 0);
            x.pass(1);
            Check.due("place of " + t[0] + " by " + t[1], x.ofHandset(0, 0), t[2]);
            Check.due("speed of " + t[0] + " by " + t[1], x.ofHandset(0, 1), t[3]);
        }
        Handoverhouse there = new Handoverhouse();
        there.handset(0, 0, 3, 0);
        there.pass(33);
        Check.due("at the end", there.ofHandset(0, 0), 99);
        there.pass(33);
        Check.due("at the other end", there.ofHandset(0, 0), 0);
        Check.due("not turned yet", there.ofHandset(0, 1), -3);
        there.pass(1);
        Check.due("turned", there.ofHandset(0, 1), 3);
    }

    @Says(where = "section 3", words = "it stays on its MAST, if that is HEARD")
    static void staysIfHeard() {
        Handoverhouse one = new Handoverhouse();
        one.mast(0, 20, 0, 4, 0, 0);
        one.handset(0, 19, 0, 0);
        one.pass(1);
        one.mast(40, 24, 1, 4, 0, 0);
        Check.due("stays: the best there", one.best(19), 1);
        one.pass(1);
        Check.due("stays with quality 1, though there is one of 3", one.ofHandset(0, 3), 0);
        Handoverhouse zero = new Handoverhouse();
        zero.mast(0, 20, 0, 4, 0, 0);
        zero.handset(0, 19, 0, 0);
        zero.pass(1);
        zero.mast(40, 21, 1, 4, 0, 0);
        zero.speed(0, 1);
        zero.pass(1);
        Check.due("leaves quality 0 for quality 1", zero.ofHandset(0, 3), 1);
    }

    @Says(where = "section 3", words = "the BEST has a QUALITY that is less than 3 more")
    static void staysIfLessThanThreeMore() {
        for (int more = 0; more <= 4; more++) {
            Handoverhouse x = new Handoverhouse();
            x.mast(50, 30, 0, 4, 0, 0);
            x.handset(0, 50, 0, 0);
            x.pass(1);
            x.mast(50, 30 + more, 1, 4, 0, 0);
            x.pass(1);
            Check.due("the best is more by " + more, x.ofHandset(0, 3), more < 3 ? 0 : 1);
        }
    }

    @Says(where = "section 3", words = "otherwise it is on the BEST that is HEARD (NONE without one).")
    static void noneWithoutOne() {
        Handoverhouse x = new Handoverhouse();
        x.handset(0, 9, 0, 0);
        x.pass(1);
        Check.due("a road without masts", x.ofHandset(0, 3), -1);
        x.mast(0, 10, 0, 4, 0, 0);
        x.pass(1);
        Check.due("quality 1", x.ofHandset(0, 3), 0);
        x.speed(0, 1);
        x.pass(1);
        Check.due("quality 0", x.ofHandset(0, 3), -1);
        x.speed(0, -1);
        x.pass(1);
        Check.due("quality 1 again", x.ofHandset(0, 3), 0);
    }

    @Says(where = "section 3", words = "If it is on one, and its AREA is not what it TOLD last")
    static void tellsAnotherArea() {
        Handoverhouse x = new Handoverhouse();
        x.mast(50, 30, 0, 4, 0, 0);
        x.mast(50, 30, 1, 4, 0, 0);
        x.mast(50, 30, 2, 4, 3, 0);
        x.handset(0, 50, 0, 0);
        x.pass(1);
        Check.due("area 0 is not none", x.ofHandset(0, 8), 1);
        x.wake(0, false);
        x.pass(1);
        Check.due("another mast of the same area", x.ofHandset(0, 8), 1);
        x.wake(1, false);
        x.pass(1);
        Check.due("another area", x.ofHandset(0, 8), 2);
        Check.due("it is known", x.ofHandset(0, 5), 3);
        x.forget();
        x.pass(1);
        Check.due("what it told counts, not what is known", x.ofHandset(0, 8), 2);
        x.wake(2, false);
        x.pass(40);
        Check.due("on none it tells nothing", x.ofHandset(0, 8), 2);
        Check.due("on none nothing is known", x.ofHandset(0, 5), -1);
        x.wake(2, true);
        x.pass(1);
        Check.due("the same area, long ago", x.ofHandset(0, 8), 3);
    }

    @Says(where = "section 3", words = "or it TOLD that 20 seconds ago or more")
    static void tellsAgain() {
        Handoverhouse x = new Handoverhouse();
        x.mast(50, 30, 0, 4, 2, 0);
        x.handset(0, 50, 0, 0);
        x.pass(1);
        x.forget();
        x.pass(19);
        Check.due("19 seconds ago", x.ofHandset(0, 8), 1);
        Check.due("19 seconds ago: not known", x.ofHandset(0, 5), -1);
        x.pass(1);
        Check.due("20 seconds ago", x.ofHandset(0, 8), 2);
        Check.due("20 seconds ago: known", x.ofHandset(0, 5), 2);
        x.pass(19);
        Check.due("19 seconds ago again", x.ofHandset(0, 8), 2);
        x.pass(1);
        Check.due("20 seconds ago again", x.ofHandset(0, 8), 3);
        x.emergency(0);
        x.pass(25);
        Check.due("in a call it tells nothing", x.ofHandset(0, 8), 3);
        x.hang(0);
        x.pass(1);
        Check.due("more than 20 seconds ago", x.ofHandset(0, 8), 4);
    }

    @Says(where = "section 3", words = "of the other MASTS that are AWAKE, with a free CHANNEL (LOAD less than CHANNELS), the BEST is the CANDIDATE.")
    static void candidateWithFreeChannel() {
        Handoverhouse x = inEmergency();
        x.handset(0, 50, 0, 0);
        x.handset(0, 50, 0, 0);
        x.mast(50, 40, 1, 2, 0, 0);
        x.pass(1);
        x.emergency(1);
        x.emergency(2);
        Check.due("candidate: full", x.ofMast(1, 7), 2);
        x.pass(5);
        Check.due("candidate: not a full one", x.ofCall(0, 4), 0);
        x.hang(2);
        x.pass(1);
        Check.due("candidate: the wait was 0", x.ofCall(0, 4), 0);
        x.pass(1);
        Check.due("candidate: one channel is free", x.ofCall(0, 7), 1);
        Check.due("candidate: full again", x.ofMast(1, 7), 2);
        Handoverhouse y = inEmergency();
        y.mast(50, 60, 1, 4, 0, 0);
        y.wake(1, false);
        y.pass(5);
        Check.due("candidate: not one asleep", y.ofCall(0, 4), 0);
        y.mast(50, 40, 1, 4, 0, 0);
        y.mast(50, 40, 2, 4, 0, 0);
        y.pass(2);
        Check.due("candidate: the smallest of two", y.ofCall(0, 7), 2);
        Handoverhouse z = inEmergency();
        z.pass(99);
        Check.due("candidate: none without another mast", z.ofCall(0, 4), 0);
    }

    @Says(where = "section 3", words = "If that has a QUALITY 4 or more above that of its own MAST, WAIT of the LEG is 1 more, otherwise 0.")
    static void waitsForFourMore() {
        Handoverhouse three = inEmergency();
        three.mast(50, 31, 1, 4, 0, 0);
        three.pass(9);
        Check.due("wait: 3 above", three.ofCall(0, 4), 0);
        Handoverhouse four = inEmergency();
        four.mast(50, 32, 1, 4, 0, 0);
        four.pass(2);
        Check.due("wait: 4 above", four.ofCall(0, 4), 1);
        Handoverhouse broken = inEmergency();
        broken.mast(50, 32, 1, 4, 0, 0);
        for (int again = 0; again < 3; again++) {
            broken.pass(1);
            broken.wake(1, false);
            broken.pass(1);
            broken.wake(1, true);
        }
        Check.due("wait: 0 in between", broken.ofCall(0, 4), 0);
        Handoverhouse changing = inEmergency();
        changing.mast(50, 32, 1, 4, 0, 0);
        changing.pass(1);
        changing.wake(1, false);
        changing.mast(50, 32, 2, 4, 0, 0);
        changing.pass(1);
        Check.due("wait: it goes on with another candidate", changing.ofCall(0, 7), 2);
    }

    @Says(where = "section 3", words = "With a WAIT of 2, or if its own is not HEARD and the CANDIDATE is: HANDOVER: the LEG is on the CANDIDATE, WAIT is 0")
    static void handsOver() {
        Handoverhouse x = inEmergency();
        x.mast(50, 40, 1, 4, 0, 0);
        x.pass(1);
        Check.due("handover: a wait of 1", x.ofCall(0, 7), 0);
        x.pass(1);
        Check.due("handover: a wait of 2", x.ofCall(0, 7), 1);
        x.mast(50, 60, 2, 4, 0, 0);
        x.pass(1);
        Check.due("handover: the wait was 0", x.ofCall(0, 7), 1);
        x.pass(1);
        Check.due("handover: a wait of 2 again", x.ofCall(0, 7), 2);
        handsOverUnheard(17, 36, 0);
        handsOverUnheard(18, 32, 0);
        handsOverUnheard(18, 33, 1);
    }

    /** With its leg mast 0 has quality 18 - place there, and mast 1 has power - 50 + place. */
    private static void handsOverUnheard(int place, int power, int due) {
        Handoverhouse x = inEmergencyAt(place);
        x.mast(50, power, 1, 4, 0, 0);
        x.pass(1);
        Check.due("handover at " + place + " to one of " + power, x.ofCall(0, 7), due);
        Check.due("handovers at " + place, x.ofCall(0, 4), due);
    }

    @Says(where = "section 3", words = "this is a PING-PONG, if the LEG left that same MAST 5 seconds ago or later as it was handed over last.")
    static void pingPongs() {
        for (int later = 2; later <= 7; later++) {
            Handoverhouse x = inEmergency();
            x.mast(50, 32, 1, 4, 0, 0);
            x.pass(2);
            Check.due("ping-pong: no first handover is one", x.ofCall(0, 5), 0);
            for (int i = 2; i < later; i++) {
                x.pass(1);
            }
            x.mast(50, 20, 1, 4, 0, 0);
            x.pass(2);
            Check.due("ping-pong: it is back", x.ofCall(0, 7), 0);
            Check.due("ping-pong: " + later + " seconds later", x.ofCall(0, 5), later <= 5 ? 1 : 0);
        }
        Handoverhouse x = inEmergency();
        x.mast(50, 32, 1, 4, 0, 0);
        x.pass(2);
        x.mast(50, 34, 2, 4, 0, 0);
        x.pass(2);
        Check.due("ping-pong: not to a third mast", x.ofCall(0, 5), 0);
        x.wake(1, false);
        x.mast(50, 30, 2, 4, 0, 0);
        x.pass(2);
        Check.due("ping-pong: on the first one again", x.ofCall(0, 7), 0);
        Check.due("ping-pong: not to one that it left before that", x.ofCall(0, 5), 0);
    }

    @Says(where = "section 3", words = "Otherwise, if its own MAST is not HEARD, BAD of the LEG is 1 more.")
    static void badIfNotHeard() {
        Handoverhouse one = inEmergencyAt(17);
        Check.due("bad: never with quality 1", one.pass(99), 0);
        Handoverhouse zero = inEmergencyAt(18);
        Check.due("bad: twice", zero.pass(2), 0);
        Check.due("bad: three times with quality 0", zero.pass(1), 1);
    }

    @Says(where = "section 3", words = "If its MAST (behind a HANDOVER the new one, with this LEG on it) is HEARD then, BAD is 0.")
    static void badIsOver() {
        Handoverhouse x = inEmergencyAt(18);
        x.pass(2);
        x.speed(0, -1);
        x.pass(1);
        Check.due("bad: heard with quality 1", x.quality(0, 17), 1);
        x.speed(0, 1);
        Check.due("bad: it began anew", x.pass(2), 0);
        Check.due("bad: three times", x.pass(1), 1);
        Handoverhouse heard = carriedWhileBad(35);
        Check.due("bad: with its leg the new one is heard", heard.quality(1, 18), 1);
        heard.speed(0, -3);
        Check.due("bad: anew on the new one", heard.pass(2), 0);
        Check.due("bad: three times on the new one", heard.pass(1), 1);
        Handoverhouse unheard = carriedWhileBad(34);
        Check.due("bad: with its leg the new one is not heard", unheard.quality(1, 18), 0);
        Check.due("bad: the third time on the new one", unheard.pass(1), 1);
    }

    /** Twice bad on mast 0, then handed over to mast 1 of that power at 50; mast 0 is asleep by then. */
    private static Handoverhouse carriedWhileBad(int power) {
        Handoverhouse x = inEmergencyAt(18);
        x.pass(2);
        x.mast(50, power, 1, 4, 0, 0);
        x.pass(1);
        Check.due("carried while bad", x.ofCall(0, 7), 1);
        Check.due("carried while bad: goes on", x.ofCall(0, 6), 0);
        Check.due("carried while bad: mast 0 may sleep", x.wake(0, false), true);
        return x;
    }

    @Says(where = "section 3", words = "With a BAD of 3 the CALL is DROPPED (its other LEG is looked at no more).")
    static void dropped() {
        Handoverhouse x = callFarFromItsMast(46);
        x.pass(1);
        Check.due("dropped: not with a bad of 2", x.ofCall(0, 6), 0);
        Check.due("dropped: with a bad of 3", x.pass(1), 1);
        Check.due("dropped: how it ended", x.ofCall(0, 6), 2);
        Check.due("dropped: that second is not paid for", x.ofCall(0, 3), 2);
        Check.due("dropped: the other leg would have been handed over", x.ofCall(0, 4), 0);
        Check.due("dropped: the caller is idle on its mast", x.ofHandset(0, 3), 0);
        Check.due("dropped: the other one is idle on its mast", x.ofHandset(1, 3), 0);
        Handoverhouse heard = callFarFromItsMast(45);
        Check.due("dropped: not with quality 1", heard.pass(2), 0);
        Check.due("dropped: the other leg is handed over", heard.ofCall(0, 8), 1);
    }

    /** One second of a call: with it mast 0 has quality 46 - place for the caller; mast 1 is 4 better for the other. */
    private static Handoverhouse callFarFromItsMast(int place) {
        Handoverhouse x = new Handoverhouse();
        x.mast(30, 20, 0, 4, 0, 0);
        x.handset(0, place, 0, 50);
        x.handset(0, 20, 0, 50);
        x.pass(1);
        x.call(0, 1);
        x.pass(1);
        x.mast(20, 10, 1, 4, 0, 0);
        return x;
    }

    @Says(where = "section 3", words = "the caller pays 1, or 3 if the OPERATOR of its MAST is another one than its own; nothing in an emergency.")
    static void pays() {
        for (int mine = 0; mine <= 1; mine++) {
            for (int ofMast = 0; ofMast <= 1; ofMast++) {
                Handoverhouse x = new Handoverhouse();
                x.mast(50, 30, 0, 4, 0, ofMast);
                x.handset(mine, 50, 0, 50);
                x.handset(1 - mine, 50, 0, 50);
                x.pass(1);
                x.call(0, 1);
                x.pass(1);
                int due = mine == ofMast ? 1 : 3;
                Check.due("pays: " + mine + " on " + ofMast, x.ofCall(0, 3), due);
                Check.due("pays: the caller", x.ofHandset(0, 4), 50 - due);
                Check.due("pays: not the other one", x.ofHandset(1, 4), 50);
            }
        }
        Handoverhouse x = inEmergency();
        Check.due("pays: an emergency with a balance of 0 goes on", x.pass(99), 0);
        Check.due("pays: nothing", x.ofCall(0, 3), 0);
        Check.due("pays: still 0", x.ofHandset(0, 4), 0);
    }

    @Says(where = "section 3", words = "With a BALANCE below that the CALL ends without CREDIT (nothing is paid).")
    static void withoutCredit() {
        endsAfter(0, 3, 3, 0);
        endsAfter(0, 4, 4, 0);
        endsAfter(1, 3, 1, 0);
        endsAfter(1, 4, 1, 1);
        endsAfter(1, 5, 1, 2);
        endsAfter(1, 6, 2, 0);
    }

    /** So many seconds are paid for, and then so much is left. */
    private static void endsAfter(int ofMast, int balance, int seconds, int left) {
        Handoverhouse x = new Handoverhouse();
        x.mast(50, 30, 0, 4, 0, ofMast);
        x.handset(0, 50, 0, balance);
        x.handset(0, 50, 0, 0);
        x.pass(1);
        x.call(0, 1);
        String what = "credit of " + balance + " with " + ofMast + ": ";
        Check.due(what + "goes on", x.pass(seconds), 0);
        Check.due(what + "ends", x.pass(1), 1);
        Check.due(what + "how", x.ofCall(0, 6), 3);
        Check.due(what + "seconds", x.ofCall(0, 2), seconds);
        Check.due(what + "paid", x.ofCall(0, 3), balance - left);
        Check.due(what + "left", x.ofHandset(0, 4), left);
        Check.due(what + "carried", x.ofMast(0, 9), 2 * seconds);
        Check.due(what + "load", x.ofMast(0, 7), 0);
    }

    @Says(where = "section 3", words = "Otherwise its SECONDS are 1 more, and so is what each MAST CARRIED, for each of its LEGS there.")
    static void carried() {
        Handoverhouse x = new Handoverhouse();
        x.mast(0, 20, 0, 4, 0, 0);
        x.mast(99, 20, 1, 4, 0, 0);
        x.handset(0, 0, 0, 50);
        x.handset(0, 0, 0, 50);
        x.handset(0, 99, 0, 50);
        x.pass(1);
        x.call(0, 1);
        Check.due("carried: nothing yet", x.ofMast(0, 9), 0);
        x.pass(1);
        Check.due("carried: both legs", x.ofMast(0, 9), 2);
        x.hang(0);
        x.call(0, 2);
        x.pass(1);
        Check.due("carried: one leg more", x.ofMast(0, 9), 3);
        Check.due("carried: the other leg", x.ofMast(1, 9), 1);
        Check.due("carried: seconds", x.ofCall(1, 2), 1);
        Check.due("carried: seconds of the ended one", x.ofCall(0, 2), 1);
    }

    @Says(where = "section 3", words = "if the HANDSET to which it goes is on a MAST, it is there.")
    static void textIsThere() {
        Handoverhouse x = new Handoverhouse();
        x.mast(0, 10, 0, 4, 0, 0);
        x.handset(0, 9, 0, 0);
        x.handset(0, 10, 0, 0);
        x.text(0, 1);
        x.text(1, 0);
        Check.due("text: not before a second", x.many(10), 2);
        x.pass(1);
        Check.due("text: heard with quality 1 in this very second", x.ofHandset(0, 9), 1);
        Check.due("text: not with quality 0", x.ofHandset(1, 9), 0);
        x.speed(1, -1);
        x.pass(1);
        Check.due("text: as it comes near", x.ofHandset(1, 9), 1);
        x.turn(0, false);
        x.text(1, 0);
        x.pass(9);
        Check.due("text: waits while off", x.ofHandset(0, 10), 1);
        x.turn(0, true);
        x.pass(1);
        Check.due("text: there once on", x.ofHandset(0, 10), 0);
        Check.due("text: all are there", x.many(10), 0);
    }
}
