/** Promises 1 to 7: a new object, mast, handset, speed, top, turn, wake. */
public final class ToldTest {
    public static void main(String[] args) {
        newObject();
        mastIsTold();
        mastEdges();
        mastRefused();
        handsetIsTold();
        handsetRefused();
        speed();
        top();
        turn();
        turnInCall();
        wake();
        wakeWithLoad();
        Check.end();
    }

    private static void newObject() {
        Handoverhouse x = new Handoverhouse();
        for (int what = 0; what <= 14; what++) {
            Check.due("new: many " + what, x.many(what), 0);
        }
        Check.due("new: best", x.best(0), -1);
        Check.due("new: mean", x.meanSeconds(), 0.0);
        Check.due("new: forget", x.forget(), 0);
        Check.noNumber("new: mast 0", x, () -> x.ofMast(0, 0));
        Check.noNumber("new: handset 0", x, () -> x.ofHandset(0, 0));
        Check.noNumber("new: call 0", x, () -> x.ofCall(0, 0));
        Handoverhouse other = new Handoverhouse();
        other.mast(1, 10, 0, 1, 0, 0);
        Check.due("new: objects share nothing", x.many(1), 0);
    }

    private static void mastIsTold() {
        Handoverhouse x = new Handoverhouse();
        Check.due("mast: first number", x.mast(7, 33, 2, 3, 1, 1), 0);
        Check.due("mast: second number", x.mast(8, 34, 1, 2, 3, 0), 1);
        int[] due = {7, 33, 2, 3, 1, 1, 1, 0, 0, 0};
        int[] dueOther = {8, 34, 1, 2, 3, 0, 1, 0, 0, 0};
        for (int what = 0; what <= 9; what++) {
            Check.due("mast: of " + what, x.ofMast(0, what), due[what]);
            Check.due("mast: of other " + what, x.ofMast(1, what), dueOther[what]);
        }
        Check.due("mast: many", x.many(1), 2);
    }

    private static void mastEdges() {
        Handoverhouse x = new Handoverhouse();
        Check.due("mast: least", x.mast(0, 10, 0, 1, 0, 0), 0);
        Check.due("mast: most", x.mast(99, 60, 2, 4, 3, 1), 1);
    }

    private static void mastRefused() {
        Handoverhouse x = new Handoverhouse();
        for (int m = 0; m < 7; m++) {
            Check.noArgument("mast: place -1", x, () -> x.mast(-1, 20, 0, 1, 0, 0));
            Check.noArgument("mast: place 100", x, () -> x.mast(100, 20, 0, 1, 0, 0));
            Check.noArgument("mast: power 9", x, () -> x.mast(0, 9, 0, 1, 0, 0));
            Check.noArgument("mast: power 61", x, () -> x.mast(0, 61, 0, 1, 0, 0));
            Check.noArgument("mast: frequency -1", x, () -> x.mast(0, 20, -1, 1, 0, 0));
            Check.noArgument("mast: frequency 3", x, () -> x.mast(0, 20, 3, 1, 0, 0));
            Check.noArgument("mast: channels 0", x, () -> x.mast(0, 20, 0, 0, 0, 0));
            Check.noArgument("mast: channels 5", x, () -> x.mast(0, 20, 0, 5, 0, 0));
            Check.noArgument("mast: area -1", x, () -> x.mast(0, 20, 0, 1, -1, 0));
            Check.noArgument("mast: area 4", x, () -> x.mast(0, 20, 0, 1, 4, 0));
            Check.noArgument("mast: operator -1", x, () -> x.mast(0, 20, 0, 1, 0, -1));
            Check.noArgument("mast: operator 2", x, () -> x.mast(0, 20, 0, 1, 0, 2));
            if (m < 6) {
                Check.due("mast: number", x.mast(m, 20, 0, 1, 0, 0), m);
            } else {
                Check.noState("mast: the seventh", x, () -> x.mast(0, 20, 0, 1, 0, 0));
            }
        }
        Check.due("mast: there are 6", x.many(1), 6);
    }

    private static void handsetIsTold() {
        Handoverhouse x = new Handoverhouse();
        Check.due("handset: first number", x.handset(1, 44, -2, 77), 0);
        Check.due("handset: second number", x.handset(0, 0, -3, 0), 1);
        Check.due("handset: third number", x.handset(1, 99, 3, 999), 2);
        int[] due = {44, -2, 1, -1, 77, -1, -1, -1, 0, 0, 0};
        for (int what = 0; what <= 10; what++) {
            Check.due("handset: of " + what, x.ofHandset(0, what), due[what]);
        }
        Check.due("handset: other balance", x.ofHandset(2, 4), 999);
        Check.due("handset: many", x.many(2), 3);
    }

    private static void handsetRefused() {
        Handoverhouse x = new Handoverhouse();
        for (int h = 0; h < 9; h++) {
            Check.noArgument("handset: operator -1", x, () -> x.handset(-1, 0, 0, 0));
            Check.noArgument("handset: operator 2", x, () -> x.handset(2, 0, 0, 0));
            Check.noArgument("handset: place -1", x, () -> x.handset(0, -1, 0, 0));
            Check.noArgument("handset: place 100", x, () -> x.handset(0, 100, 0, 0));
            Check.noArgument("handset: speed -4", x, () -> x.handset(0, 0, -4, 0));
            Check.noArgument("handset: speed 4", x, () -> x.handset(0, 0, 4, 0));
            Check.noArgument("handset: balance -1", x, () -> x.handset(0, 0, 0, -1));
            Check.noArgument("handset: balance 1000", x, () -> x.handset(0, 0, 0, 1000));
            if (h < 8) {
                Check.due("handset: number", x.handset(0, h, 0, 0), h);
            } else {
                Check.noState("handset: the ninth", x, () -> x.handset(0, 0, 0, 0));
            }
        }
        Check.due("handset: there are 8", x.many(2), 8);
    }

    private static void speed() {
        Handoverhouse x = new Handoverhouse();
        x.handset(0, 10, 1, 0);
        Check.due("speed: before", x.speed(0, -3), 1);
        Check.due("speed: before again", x.speed(0, 3), -3);
        Check.due("speed: now", x.ofHandset(0, 1), 3);
        x.pass(1);
        Check.due("speed: moves by it", x.ofHandset(0, 0), 13);
        Check.noNumber("speed: handset -1", x, () -> x.speed(-1, 0));
        Check.noNumber("speed: handset 1", x, () -> x.speed(1, 0));
        Check.noNumber("speed: both wrong", x, () -> x.speed(1, 9));
        Check.noArgument("speed: -4", x, () -> x.speed(0, -4));
        Check.noArgument("speed: 4", x, () -> x.speed(0, 4));
    }

    private static void top() {
        Handoverhouse x = new Handoverhouse();
        x.handset(0, 10, 1, 999);
        Check.due("top: least", x.top(0, 1), 1000);
        Check.due("top: most", x.top(0, 999), 1999);
        Check.due("top: balance", x.ofHandset(0, 4), 1999);
        Check.noNumber("top: handset -1", x, () -> x.top(-1, 1));
        Check.noNumber("top: handset 1", x, () -> x.top(1, 1));
        Check.noNumber("top: both wrong", x, () -> x.top(1, 0));
        Check.noArgument("top: 0", x, () -> x.top(0, 0));
        Check.noArgument("top: 1000", x, () -> x.top(0, 1000));
    }

    private static void turn() {
        Handoverhouse x = new Handoverhouse();
        x.mast(10, 30, 0, 2, 1, 0);
        x.handset(0, 10, 1, 50);
        x.pass(1);
        Check.due("turn: on while on", x.turn(0, true), true);
        Check.due("turn: on while on keeps the mast", x.ofHandset(0, 3), 0);
        Check.due("turn: off", x.turn(0, false), true);
        Check.due("turn: is off", x.ofHandset(0, 2), 0);
        Check.due("turn: off is on none", x.ofHandset(0, 3), -1);
        Check.due("turn: the register still knows", x.ofHandset(0, 5), 1);
        Check.due("turn: off while off", x.turn(0, false), false);
        x.pass(1);
        Check.due("turn: off stays on none", x.ofHandset(0, 3), -1);
        Check.due("turn: off moves", x.ofHandset(0, 0), 12);
        Check.due("turn: on", x.turn(0, true), false);
        Check.due("turn: on is on none", x.ofHandset(0, 3), -1);
        x.pass(1);
        Check.due("turn: on camps", x.ofHandset(0, 3), 0);
        Check.due("turn: what it told last was kept", x.ofHandset(0, 8), 1);
        Check.noNumber("turn: handset -1", x, () -> x.turn(-1, true));
        Check.noNumber("turn: handset 1", x, () -> x.turn(1, true));
    }

    private static void turnInCall() {
        Handoverhouse x = new Handoverhouse();
        x.mast(10, 30, 0, 2, 1, 0);
        x.handset(0, 10, 0, 50);
        x.handset(0, 10, 0, 50);
        x.pass(1);
        x.call(0, 1);
        x.pass(2);
        Check.due("turn: on in a call", x.turn(1, true), true);
        Check.due("turn: on in a call ends nothing", x.ofCall(0, 6), 0);
        Check.due("turn: off in a call", x.turn(1, false), true);
        Check.due("turn: ends as if hung up", x.ofCall(0, 6), 1);
        Check.due("turn: the other one is in no call", x.ofHandset(0, 7), -1);
        Check.due("turn: the other one is on its mast", x.ofHandset(0, 3), 0);
        Check.due("turn: it is in no call", x.ofHandset(1, 7), -1);
        Check.due("turn: it is on none", x.ofHandset(1, 3), -1);
        Check.due("turn: where it was as it ended", x.ofCall(0, 8), 0);
        Check.due("turn: load", x.ofMast(0, 7), 0);
    }

    private static void wake() {
        Handoverhouse x = new Handoverhouse();
        x.mast(10, 30, 0, 2, 1, 0);
        x.mast(12, 30, 0, 2, 2, 0);
        x.handset(0, 10, 0, 50);
        x.handset(0, 12, 0, 50);
        x.pass(1);
        Check.due("wake: noise", x.quality(0, 10), 30 - 9);
        Check.due("wake: awake one wakes", x.wake(0, true), true);
        Check.due("wake: keeps its handsets", x.ofHandset(0, 3), 0);
        Check.due("wake: sleeps", x.wake(0, false), true);
        Check.due("wake: is asleep", x.ofMast(0, 6), 0);
        Check.due("wake: quality asleep", x.quality(0, 10), -99);
        Check.due("wake: no noise asleep", x.quality(1, 12), 30);
        Check.due("wake: its handset is on none", x.ofHandset(0, 3), -1);
        Check.due("wake: the other one stays", x.ofHandset(1, 3), 1);
        Check.due("wake: sleeps again", x.wake(0, false), true);
        x.pass(1);
        Check.due("wake: nobody chooses it", x.ofHandset(0, 3), 1);
        Check.due("wake: wakes", x.wake(0, true), true);
        Check.due("wake: quality awake", x.quality(0, 10), 30 - 9);
        Check.due("wake: noise again", x.quality(1, 12), 30 - 9);
        Check.noNumber("wake: mast -1", x, () -> x.wake(-1, true));
        Check.noNumber("wake: mast 2", x, () -> x.wake(2, true));
    }

    private static void wakeWithLoad() {
        Handoverhouse x = new Handoverhouse();
        x.mast(10, 30, 0, 2, 1, 0);
        x.handset(0, 10, 0, 50);
        x.handset(0, 10, 0, 50);
        x.pass(1);
        x.emergency(0);
        long before = x.digest();
        Check.due("wake: load may not sleep", x.wake(0, false), false);
        Check.due("wake: that changed nothing", x.digest(), before);
        Check.due("wake: load may be awake", x.wake(0, true), true);
        x.hang(0);
        Check.due("wake: sleeps without the load", x.wake(0, false), true);
        Check.due("wake: it is on none", x.ofHandset(0, 3), -1);
    }
}
