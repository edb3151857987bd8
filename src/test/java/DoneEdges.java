/** Promises 8 to 13: calls, emergencies, texts and seconds that are refused, the first and the last of them. */
final class DoneEdges {
    private DoneEdges() {
    }

    private static Handoverhouse onOneMast(int channels, int handsets, int balance) {
        Handoverhouse x = new Handoverhouse();
        x.mast(50, 30, 0, channels, 0, 0);
        for (int h = 0; h < handsets; h++) {
            x.handset(0, 50, 0, balance);
        }
        x.pass(1);
        return x;
    }

    /** All 24 calls have been made and have ended. */
    private static Handoverhouse afterAllCalls() {
        Handoverhouse x = onOneMast(2, 2, 50);
        for (int c = 0; c < 24; c++) {
            x.emergency(c % 2);
            x.hang(c);
        }
        return x;
    }

    @Says(where = "promise 8", words = "Returns the number of the CALL; otherwise the first of these: -2 from is not IDLE, or on NONE; -3 to is not FOUND (PAGES grow from -3 on, not with -2); -4 it is in a CALL; -5 there is no free CHANNEL; -6 the BALANCE.")
    static void firstReason() {
        Handoverhouse x = onOneMast(1, 2, 0);
        x.handset(0, 99, 0, 0);
        x.pass(1);
        Check.due("-2 ahead of -3, -5 and -6", x.call(2, 1), -2);
        x.turn(1, false);
        Check.due("-2 though nobody is found", x.call(2, 1), -2);
        Check.due("-2 pages nobody", x.many(8), 0);
        Check.due("-3 ahead of -5 and -6", x.call(0, 1), -3);
        Check.due("-3 pages", x.many(8), 1);
        x.turn(1, true);
        x.pass(1);
        x.emergency(1);
        Check.due("-2 of one in a call, ahead of all", x.call(1, 0), -2);
        Check.due("-4 ahead of -5 and -6", x.call(0, 1), -4);
        Check.due("-4 pages", x.many(8), 2);
        x.hang(0);
        Check.due("-5 ahead of -6", x.call(0, 1), -5);
        Check.due("-5 pages", x.many(8), 3);
        Handoverhouse y = onOneMast(2, 2, 2);
        Check.due("-6 with channels", y.call(0, 1), -6);
        Check.due("-6 pages", y.many(8), 1);
        y.top(0, 1);
        Check.due("the number", y.call(0, 1), 0);
        Check.due("a call pages", y.many(8), 2);
        Check.due("no number for a reason", y.many(3), 1);
    }

    @Says(where = "promise 8", words = "Throws `IndexOutOfBoundsException` if there is no such HANDSET")
    static void callOfNone() {
        Handoverhouse x = onOneMast(4, 2, 50);
        Check.noSuch("call: from", x, 2, v -> x.call(v, 0));
        Check.noSuch("call: to", x, 2, v -> x.call(0, v));
        Check.noSuch("call: both", x, 2, v -> x.call(v, v));
        Handoverhouse none = new Handoverhouse();
        Check.noSuch("call: without handsets", none, 0, v -> none.call(v, 0));
    }

    @Says(where = "promise 8", words = "Throws `IllegalArgumentException` if both are the same")
    static void callOfItself() {
        Handoverhouse x = onOneMast(4, 2, 50);
        Check.noArgument("call: the first one itself", x, () -> x.call(0, 0));
        Check.noArgument("call: the last one itself", x, () -> x.call(1, 1));
        x.turn(1, false);
        Check.noArgument("call: itself ahead of -2", x, () -> x.call(1, 1));
    }

    @Says(where = "promise 8", words = "Throws `IllegalStateException` if there were 24 CALLS")
    static void callAfterAll() {
        Handoverhouse x = onOneMast(2, 2, 50);
        for (int c = 0; c < 23; c++) {
            x.emergency(0);
            x.hang(c);
        }
        Check.due("call: the 24th", x.call(0, 1), 23);
        Check.noState("call: the 25th, as the 24th goes on", x, () -> x.call(0, 1));
        x.hang(23);
        Check.noState("call: the 25th", x, () -> x.call(0, 1));
        x.turn(0, false);
        Check.noState("call: the 25th, ahead of -2", x, () -> x.call(0, 1));
        Check.due("call: it pages nobody", x.many(8), 1);
    }

    @Says(where = "promise 9", words = "Returns the number of the CALL; -2, if from is not IDLE, or on NONE; -5, if there are only EMERGENCIES on all CHANNELS there.")
    static void emergencyReasons() {
        for (int channels = 1; channels <= 4; channels++) {
            Handoverhouse x = onOneMast(channels, 6, 0);
            for (int h = 0; h < channels; h++) {
                Check.due("emergency: free channels " + (channels - h), x.emergency(h), h);
            }
            Check.noChange("emergency: -5", x, () -> Check.due("emergency: full", x.emergency(5), -5));
            Check.due("emergency: -2 ahead of -5", x.emergency(0), -2);
            x.turn(5, false);
            Check.due("emergency: off, -2 ahead of -5", x.emergency(5), -2);
        }
        Handoverhouse far = new Handoverhouse();
        far.handset(0, 50, 0, 0);
        Check.due("emergency: on none", far.emergency(0), -2);
    }

    @Says(where = "promise 9", words = "Throws `IndexOutOfBoundsException` if there is no such HANDSET")
    static void emergencyOfNone() {
        Handoverhouse x = onOneMast(4, 2, 50);
        Check.noSuch("emergency: handset", x, 2, v -> x.emergency(v));
        Handoverhouse none = new Handoverhouse();
        Check.noSuch("emergency: without handsets", none, 0, v -> none.emergency(v));
    }

    @Says(where = "promise 9", words = "Throws `IllegalStateException` if there were 24 CALLS")
    static void emergencyAfterAll() {
        Handoverhouse x = onOneMast(2, 3, 50);
        for (int c = 0; c < 22; c++) {
            x.call(0, 1);
            x.hang(c);
        }
        x.call(0, 1);
        Check.due("emergency: the 24th pushes", x.emergency(2), 23);
        Check.noState("emergency: the 25th", x, () -> x.emergency(0));
        Check.noState("emergency: the 25th, ahead of -2", x, () -> x.emergency(2));
        Check.due("emergency: the 24th goes on", x.ofCall(23, 6), 0);
    }

    @Says(where = "promise 10", words = "Returns its SECONDS.")
    static void hangAtOnce() {
        Handoverhouse x = onOneMast(4, 2, 100);
        x.call(0, 1);
        Check.due("hang: at once", x.hang(0), 0);
        x.call(0, 1);
        x.pass(99);
        Check.due("hang: behind 99", x.hang(1), 99);
        Check.due("hang: the next call begins with 0", x.ofCall(x.call(1, 0), 2), 0);
    }

    @Says(where = "promise 10", words = "Throws `IndexOutOfBoundsException` if there is no such CALL")
    static void hangOfNone() {
        Handoverhouse x = onOneMast(4, 2, 50);
        Check.noSuch("hang: without calls", x, 0, v -> x.hang(v));
        x.call(0, 1);
        Check.noSuch("hang: call", x, 1, v -> x.hang(v));
        Handoverhouse all = afterAllCalls();
        Check.noSuch("hang: of 24 calls", all, 24, v -> all.hang(v));
    }

    @Says(where = "promise 10", words = "Throws `IllegalStateException` if it has ended")
    static void hangOfEnded() {
        Handoverhouse x = onOneMast(2, 3, 4);
        x.call(0, 1);
        x.hang(0);
        Check.noState("hang: hung up", x, () -> x.hang(0));
        x.call(0, 1);
        x.emergency(2);
        Check.noState("hang: pushed out", x, () -> x.hang(1));
        x.hang(2);
        x.call(0, 1);
        x.pass(5);
        Check.noState("hang: without credit", x, () -> x.hang(3));
        x.emergency(0);
        x.turn(0, false);
        Check.noState("hang: turned off", x, () -> x.hang(4));
        x.emergency(1);
        x.speed(1, 3);
        x.pass(20);
        Check.due("hang: it was dropped", x.ofCall(5, 6), 2);
        Check.noState("hang: dropped", x, () -> x.hang(5));
    }

    @Says(where = "promise 11", words = "Returns how many TEXTS wait for that one then.")
    static void textsWait() {
        Handoverhouse x = onOneMast(4, 2, 0);
        x.handset(0, 99, 0, 0);
        for (int t = 1; t <= 12; t++) {
            Check.due("text: those for the far one", x.text(0, 2), t);
        }
        x.pass(1);
        Check.due("text: those that still wait", x.text(1, 2), 13);
        Check.due("text: for one on a mast it waits at first", x.text(2, 0), 1);
        Check.due("text: a second one", x.text(2, 0), 2);
        x.pass(1);
        Check.due("text: none was left", x.text(2, 0), 1);
        Check.due("text: all that wait", x.many(10), 14);
    }

    @Says(where = "promise 11", words = "- `from`: who sends it (it need not be ON)")
    static void textFromOff() {
        Handoverhouse x = onOneMast(4, 2, 0);
        x.turn(0, false);
        Check.due("text: from one that is off", x.text(0, 1), 1);
        x.pass(1);
        Check.due("text: it is there", x.ofHandset(1, 9), 1);
        Check.due("text: to one that is off", x.text(1, 0), 1);
        x.pass(9);
        Check.due("text: it waits", x.ofHandset(0, 10), 1);
    }

    @Says(where = "promise 11", words = "Throws `IndexOutOfBoundsException` if there is no such HANDSET")
    static void textOfNone() {
        Handoverhouse x = onOneMast(4, 2, 50);
        Check.noSuch("text: from", x, 2, v -> x.text(v, 0));
        Check.noSuch("text: to", x, 2, v -> x.text(0, v));
        Check.noSuch("text: both", x, 2, v -> x.text(v, v));
        Handoverhouse none = new Handoverhouse();
        Check.noSuch("text: without handsets", none, 0, v -> none.text(v, 0));
    }

    @Says(where = "promise 11", words = "Throws `IllegalArgumentException` if both are the same")
    static void textToItself() {
        Handoverhouse x = onOneMast(4, 2, 50);
        Check.noArgument("text: the first one itself", x, () -> x.text(0, 0));
        Check.noArgument("text: the last one itself", x, () -> x.text(1, 1));
    }

    @Says(where = "promise 11", words = "Throws `IllegalStateException` if there were 24 TEXTS")
    static void textAfterAll() {
        Handoverhouse x = onOneMast(4, 3, 50);
        for (int t = 0; t < 24; t++) {
            Check.due("text: ever", x.many(9), t);
            x.text(t % 3, (t + 1) % 3);
        }
        Check.noState("text: the 25th, as 24 wait", x, () -> x.text(0, 1));
        Check.due("text: 8 for each", x.ofHandset(0, 10), 8);
        x.pass(1);
        Check.due("text: none waits", x.many(10), 0);
        Check.due("text: 8 are there", x.ofHandset(2, 9), 8);
        Check.noState("text: the 25th, as none waits", x, () -> x.text(0, 1));
        Check.due("text: 24 ever", x.many(9), 24);
    }

    @Says(where = "promise 12", words = "The REGISTER forgets all AREAS (no HANDSET knows that).")
    static void forgetsAll() {
        Handoverhouse x = onOneMast(4, 8, 50);
        Check.due("forget: 8", x.forget(), 8);
        for (int h = 0; h < 8; h++) {
            Check.due("forget: not known", x.ofHandset(h, 5), -1);
            Check.due("forget: what it told is kept", x.ofHandset(h, 6), 0);
        }
        Check.due("forget: 0", x.forget(), 0);
        x.pass(19);
        Check.due("forget: nobody tells anew for that", x.many(11), 8);
        x.pass(1);
        Check.due("forget: 20 seconds ago", x.many(11), 16);
        Check.due("forget: 8 again", x.forget(), 8);
    }

    @Says(where = "promise 12", words = "Returns how many it knew.")
    static void forgetsSome() {
        Handoverhouse x = onOneMast(4, 3, 50);
        x.handset(0, 99, 0, 50);
        x.turn(0, false);
        x.emergency(1);
        x.pass(1);
        Check.due("forget: those off and in calls too, not the one never heard", x.forget(), 3);
        Check.due("forget: on an empty road", new Handoverhouse().forget(), 0);
    }

    @Says(where = "promise 13", words = "Returns how many CALLS ended in them.")
    static void endedInThem() {
        Handoverhouse x = new Handoverhouse();
        x.mast(0, 10, 0, 4, 0, 0);
        x.mast(99, 10, 1, 4, 0, 0);
        for (int h = 0; h < 8; h++) {
            x.handset(0, h < 4 ? 0 : 99, 0, 0);
        }
        Check.due("ended: none was made", x.pass(1), 0);
        for (int h = 0; h < 8; h++) {
            x.emergency(h);
            x.speed(h, h < 4 ? 3 : -3);
        }
        Check.due("ended: none yet", x.pass(2), 0);
        Check.due("ended: all 8 at once", x.pass(1), 8);
        Check.due("ended: none goes on", x.pass(99), 0);
        Handoverhouse y = onOneMast(4, 4, 5);
        y.call(0, 1);
        y.hang(0);
        y.call(0, 1);
        y.call(2, 3);
        y.top(2, 1);
        Check.due("ended: one in 6", y.pass(6), 1);
        Check.due("ended: the other one in the 7th", y.pass(1), 1);
    }

    @Says(where = "promise 13", words = "Throws `IllegalArgumentException` if seconds is not 1 to 99")
    static void passOutside() {
        Handoverhouse x = onOneMast(4, 2, 50);
        Check.outside("pass:", x, 1, 99, v -> x.pass(v));
        x.pass(1);
        Check.due("pass: the least", x.many(0), 2);
        x.pass(99);
        Check.due("pass: the most", x.many(0), 101);
        Handoverhouse none = new Handoverhouse();
        Check.outside("pass: on an empty road", none, 1, 99, v -> none.pass(v));
    }
}
