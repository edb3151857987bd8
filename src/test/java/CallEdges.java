/** Section 4, and what it says of exceptions. */
final class CallEdges {
    private CallEdges() {
    }

    /** One mast and a number of handsets on it. */
    private static Handoverhouse onOneMast(int channels, int handsets) {
        Handoverhouse x = new Handoverhouse();
        x.mast(50, 30, 0, channels, 0, 0);
        for (int h = 0; h < handsets; h++) {
            x.handset(0, 50, 0, 50);
        }
        x.pass(1);
        return x;
    }

    /** Handsets 0 to 3 on mast 0, handsets 4 to 7 on mast 1, far from each other. */
    private static Handoverhouse onTwoMasts(int channels, int channelsThere) {
        Handoverhouse x = new Handoverhouse();
        x.mast(0, 30, 0, channels, 0, 0);
        x.mast(99, 30, 1, channelsThere, 1, 0);
        for (int h = 0; h < 8; h++) {
            x.handset(0, h < 4 ? 0 : 99, 0, 50);
        }
        x.pass(1);
        return x;
    }

    @Says(where = "section 4", words = "CALLS: at most 24 ever, numbered from 0.")
    static void atMostTwentyFour() {
        Handoverhouse x = onOneMast(4, 3);
        Check.noSuch("none was made:", x, 0, v -> x.ofCall(v, 0));
        for (int c = 0; c < 24; c++) {
            Check.due("the number", c % 3 == 0 ? x.emergency(2) : x.call(c % 2, 2), c);
            Check.noSuch("so many were made:", x, c + 1, v -> x.ofCall(v, 0));
            x.hang(c);
        }
        Check.due("24 ever", x.many(3), 24);
        Check.due("none goes on", x.many(4), 0);
        Check.noState("the 25th", x, () -> x.call(0, 1));
        Check.noState("the 25th, an emergency", x, () -> x.emergency(0));
        Check.due("the first one is still known", x.ofCall(0, 0), 2);
        Check.due("the last one is known", x.ofCall(23, 0), 1);
    }

    @Says(where = "section 4", words = "To CALL, one is IDLE and on a MAST")
    static void callerIdleOnMast() {
        Handoverhouse x = onOneMast(4, 3);
        x.handset(0, 99, 0, 50);
        x.pass(1);
        Check.due("caller on none", x.call(3, 0), -2);
        x.turn(1, false);
        Check.due("caller off", x.call(1, 0), -2);
        x.emergency(2);
        Check.due("caller in a call", x.call(2, 0), -2);
        x.hang(0);
        Check.due("caller idle and on a mast", x.call(2, 0), 1);
    }

    @Says(where = "section 4", words = "the other one is PAGED, FOUND, IDLE")
    static void otherFoundAndIdle() {
        Handoverhouse x = onOneMast(4, 3);
        x.handset(0, 99, 0, 50);
        x.pass(1);
        Check.due("the other one on none", x.call(0, 3), -3);
        x.turn(1, false);
        Check.due("the other one off", x.call(0, 1), -3);
        x.emergency(2);
        Check.due("the other one in a call", x.call(0, 2), -4);
        x.hang(0);
        Check.due("the other one found and idle", x.call(0, 2), 1);
    }

    @Says(where = "section 4", words = "there is a free CHANNEL on each MAST (two, if it is the same one)")
    static void freeChannels() {
        for (int channels = 1; channels <= 4; channels++) {
            for (int taken = 0; taken <= channels; taken++) {
                Handoverhouse same = onOneMast(channels, 6);
                for (int h = 0; h < taken; h++) {
                    same.emergency(h);
                }
                Check.due("same mast, free: " + (channels - taken), same.call(4, 5), channels - taken >= 2 ? taken : -5);
                int busy = Math.min(taken, 3);
                int due = channels - busy >= 1 ? busy : -5;
                Handoverhouse here = onTwoMasts(channels, 4);
                takeAll(here, 0, busy);
                Check.due("caller's mast, free: " + (channels - busy), here.call(3, 4), due);
                Handoverhouse there = onTwoMasts(4, channels);
                takeAll(there, 4, busy);
                Check.due("other's mast, free: " + (channels - busy), there.call(0, 7), due);
            }
        }
    }

    private static void takeAll(Handoverhouse x, int first, int count) {
        for (int h = 0; h < count; h++) {
            Check.due("a channel is taken", x.emergency(first + h), h);
        }
    }

    @Says(where = "section 4", words = "the BALANCE of the one that CALLS is 3 or more.")
    static void balanceOfThree() {
        for (int balance = 0; balance <= 4; balance++) {
            Handoverhouse x = onOneMast(4, 0);
            x.handset(0, 50, 0, balance);
            x.handset(0, 50, 0, 0);
            x.pass(1);
            Check.due("balance " + balance, x.call(0, 1), balance >= 3 ? 0 : -6);
            Check.due("the other one's is not asked for", x.ofHandset(1, 4), 0);
        }
    }

    @Says(where = "section 4", words = "The CALL has two LEGS, on the MASTS where they are; WAIT and BAD are 0.")
    static void newLegs() {
        Handoverhouse x = onOneMast(4, 1);
        x.emergency(0);
        x.mast(50, 40, 1, 4, 0, 0);
        x.pass(1);
        x.hang(0);
        x.emergency(0);
        x.pass(1);
        Check.due("wait: 0 for a new leg", x.ofCall(1, 4), 0);
        x.pass(1);
        Check.due("wait: 2 of the new leg", x.ofCall(1, 4), 1);
        Handoverhouse y = new Handoverhouse();
        y.mast(0, 20, 0, 4, 0, 0);
        y.handset(0, 18, 0, 0);
        y.pass(1);
        y.emergency(0);
        y.pass(2);
        y.hang(0);
        y.emergency(0);
        Check.due("bad: 0 for a new leg", y.pass(2), 0);
        Check.due("bad: 3 of the new leg", y.pass(1), 1);
        Handoverhouse two = onTwoMasts(4, 4);
        two.call(4, 0);
        Check.due("the caller's leg", two.ofCall(0, 7), 1);
        Check.due("the other one's leg", two.ofCall(0, 8), 0);
    }

    @Says(where = "section 4", words = "An EMERGENCY has one LEG.")
    static void emergencyHasOneLeg() {
        Handoverhouse x = onOneMast(1, 1);
        Check.due("emergency: the only channel is enough", x.emergency(0), 0);
        Check.due("emergency: one leg", x.ofMast(0, 7), 1);
        Check.due("emergency: nobody is called", x.ofCall(0, 1), -1);
        Check.due("emergency: no other leg", x.ofCall(0, 8), -1);
        x.pass(3);
        Check.due("emergency: carried once a second", x.ofMast(0, 9), 3);
    }

    @Says(where = "section 4", words = "Without a free CHANNEL the CALL that has a LEG there, is none itself, and has the greatest number ends: it is PUSHED out.")
    static void pushedOut() {
        Handoverhouse x = onTwoMasts(3, 4);
        x.call(4, 0);
        x.call(1, 5);
        x.call(6, 7);
        Check.due("push: the last free channel", x.emergency(2), 3);
        Check.due("push: nobody had to go", x.many(4), 4);
        Check.due("push: full", x.emergency(3), 4);
        Check.due("push: the greatest number has no leg there", x.ofCall(2, 6), 0);
        Check.due("push: the greatest that has one", x.ofCall(1, 6), 4);
        Check.due("push: the smaller number goes on", x.ofCall(0, 6), 0);
        Check.due("push: full again", x.ofMast(0, 7), 3);
        Check.due("push: by the other one's leg", x.emergency(1), 5);
        Check.due("push: it has gone", x.ofCall(0, 6), 4);
        Check.due("push: emergencies stay", x.emergency(0), -5);
        Check.due("push: the call elsewhere goes on", x.ofCall(2, 6), 0);
        Check.due("push: one without its number", x.many(3), 6);
        Handoverhouse same = onOneMast(2, 3);
        same.call(0, 1);
        Check.due("push: both legs on the full mast", same.emergency(2), 1);
        Check.due("push: one channel is free then", same.ofMast(0, 7), 1);
        Check.due("push: the ended one is not pushed again", same.emergency(0), 2);
        Check.due("push: all channels hold emergencies", same.emergency(1), -5);
    }

    @Says(where = "section 4", words = "As a CALL ends, its HANDSETS are IDLE, on the MASTS of their LEGS.")
    static void idleAsItEnds() {
        Handoverhouse x = onTwoMasts(2, 2);
        x.call(0, 4);
        x.pass(1);
        x.hang(0);
        Check.due("ended: the caller's mast", x.ofHandset(0, 3), 0);
        Check.due("ended: the other one's mast", x.ofHandset(4, 3), 1);
        Check.due("ended: all camp there", x.ofMast(0, 8), 4);
        Check.due("ended: all camp there too", x.ofMast(1, 8), 4);
        Check.due("ended: the caller may call at once", x.call(0, 4), 1);
        x.call(1, 5);
        Check.due("ended: pushed out", x.emergency(2), 3);
        Check.due("ended: its handset may be called at once", x.call(6, 1), -5);
        Check.due("ended: its handset may call at once", x.call(5, 6), -5);
        x.hang(1);
        Check.due("ended: now there are channels", x.call(5, 1), 4);
    }

    @Says(where = "section 4", words = "A method that throws an exception changes nothing.")
    static void refusedChangesNothing() {
        Handoverhouse refusing = onTwoMasts(2, 2);
        Handoverhouse quiet = onTwoMasts(2, 2);
        refusing.speed(0, 2);
        quiet.speed(0, 2);
        refusing.call(0, 4);
        quiet.call(0, 4);
        for (int second = 0; second < 40; second++) {
            for (int i = 0; i < 6; i++) {
                refuse(refusing, 6 * second + i);
            }
            Check.due("refused: pass", refusing.pass(1), quiet.pass(1));
            if (second % 8 == 3) {
                Check.due("refused: text", refusing.text(1, 5), quiet.text(1, 5));
                Check.due("refused: emergency", refusing.emergency(6), quiet.emergency(6));
            }
            Check.due("refused: second " + second, refusing.digest(), quiet.digest());
        }
    }

    private static void refuse(Handoverhouse x, int which) {
        Check.Run[] all = {
            () -> x.mast(0, 9, 0, 1, 0, 0), () -> x.handset(0, 0, 0, 1000), () -> x.handset(0, 0, 0, 0),
            () -> x.speed(8, 3), () -> x.speed(0, 4), () -> x.top(8, 1), () -> x.top(0, 1000), () -> x.top(0, -1),
            () -> x.turn(8, false), () -> x.turn(-1, false), () -> x.wake(2, false), () -> x.wake(-1, false),
            () -> x.call(8, 0), () -> x.call(1, 8), () -> x.call(1, 1), () -> x.emergency(8), () -> x.emergency(-1),
            () -> x.hang(24), () -> x.hang(-1), () -> x.text(8, 0), () -> x.text(0, -1), () -> x.text(0, 0),
            () -> x.pass(0), () -> x.pass(100), () -> x.quality(2, 0), () -> x.quality(0, 100), () -> x.best(100),
            () -> x.ofMast(0, 10), () -> x.ofHandset(0, 11), () -> x.ofCall(0, 9), () -> x.many(15),
            () -> x.endsIn(0, 0), () -> x.endsIn(0, 100), () -> x.wouldBeOn(0, 100), () -> x.bestPlace(9, 0)};
        try {
            all[which % all.length].run();
            Check.tell("nothing was thrown by " + which % all.length);
        } catch (IndexOutOfBoundsException | IllegalArgumentException | IllegalStateException e) {
            return;
        }
    }

    @Says(where = "section 4", words = "If several exceptions apply, the one that is named first is thrown.")
    static void firstNamed() {
        Handoverhouse x = onOneMast(2, 8);
        for (int m = 1; m < 6; m++) {
            x.mast(50, 10, 1, 1, 0, 0);
        }
        for (int c = 0; c < 24; c++) {
            x.emergency(0);
            x.hang(c);
            x.text(0, 1);
        }
        Check.noArgument("mast: argument ahead of state", x, () -> x.mast(100, 10, 0, 1, 0, 0));
        Check.noArgument("handset: argument ahead of state", x, () -> x.handset(0, 0, 0, -1));
        Check.noNumber("speed: number ahead of argument", x, () -> x.speed(8, 4));
        Check.noNumber("top: number ahead of argument", x, () -> x.top(8, 0));
        Check.noNumber("call: number of from ahead of argument", x, () -> x.call(8, 8));
        Check.noNumber("call: number of to ahead of state", x, () -> x.call(0, 8));
        Check.noArgument("call: argument ahead of state", x, () -> x.call(0, 0));
        Check.noNumber("emergency: number ahead of state", x, () -> x.emergency(8));
        Check.noNumber("text: number of from ahead of argument", x, () -> x.text(-1, -1));
        Check.noNumber("text: number of to ahead of state", x, () -> x.text(0, 8));
        Check.noArgument("text: argument ahead of state", x, () -> x.text(0, 0));
        Check.noNumber("quality: number ahead of argument", x, () -> x.quality(6, 100));
        Check.noNumber("ofMast: number ahead of argument", x, () -> x.ofMast(6, 10));
        Check.noNumber("ofHandset: number ahead of argument", x, () -> x.ofHandset(8, 11));
        Check.noNumber("ofCall: number ahead of argument", x, () -> x.ofCall(24, 9));
        Check.noNumber("endsIn: number ahead of argument", x, () -> x.endsIn(24, 0));
        Check.noNumber("wouldBeOn: number ahead of argument", x, () -> x.wouldBeOn(8, 100));
    }
}
