/** Promises 8 to 12: call, emergency, hang, text, forget. */
public final class DoneTest {
    public static void main(String[] args) {
        call();
        callerNotReady();
        pagesByArea();
        pagesWithoutArea();
        busy();
        channelsOnTwoMasts();
        channelsOnOneMast();
        balance();
        answersInOrder();
        callRefused();
        callsEver();
        emergency();
        pushOut();
        pushOutOnlyThere();
        emergencyRefused();
        hang();
        text();
        textsEver();
        forget();
        Check.end();
    }

    /** Two masts far from each other, areas 1 and 2, and a handset at each of them. */
    private static Handoverhouse twoMasts() {
        Handoverhouse x = new Handoverhouse();
        x.mast(10, 30, 0, 2, 1, 0);
        x.mast(80, 30, 1, 1, 2, 0);
        x.handset(0, 10, 0, 10);
        x.handset(0, 80, 0, 10);
        x.pass(1);
        return x;
    }

    /** One mast and a number of handsets on it. */
    private static Handoverhouse oneMast(int channels, int handsets) {
        Handoverhouse x = new Handoverhouse();
        x.mast(50, 30, 0, channels, 0, 0);
        for (int h = 0; h < handsets; h++) {
            x.handset(0, 50, 0, 10);
        }
        x.pass(1);
        return x;
    }

    private static void call() {
        Handoverhouse x = twoMasts();
        Check.due("call", x.call(0, 1), 0);
        int[] due = {0, 1, 0, 0, 0, 0, 0, 0, 1};
        for (int what = 0; what <= 8; what++) {
            Check.due("call: of " + what, x.ofCall(0, what), due[what]);
        }
        Check.due("call: caller's call", x.ofHandset(0, 7), 0);
        Check.due("call: the other one's call", x.ofHandset(1, 7), 0);
        Check.due("call: load", x.ofMast(0, 7), 1);
        Check.due("call: load of the other one", x.ofMast(1, 7), 1);
        Check.due("call: nobody camps", x.ofMast(0, 8), 0);
        Check.due("call: nothing is paid at once", x.ofHandset(0, 4), 10);
        Check.due("call: pages", x.many(8), 1);
        x.hang(0);
        Check.due("call: next number", x.call(1, 0), 1);
        Check.due("call: who", x.ofCall(1, 0), 1);
        Check.due("call: whom", x.ofCall(1, 1), 0);
    }

    private static void callerNotReady() {
        Handoverhouse x = twoMasts();
        x.handset(0, 45, 0, 10);
        Check.due("call: on none", x.call(2, 0), -2);
        x.turn(0, false);
        Check.due("call: off", x.call(0, 1), -2);
        x.turn(0, true);
        x.pass(1);
        x.emergency(0);
        Check.due("call: in a call", x.call(0, 1), -2);
        Check.due("call: no pages with -2", x.many(8), 0);
        Check.due("call: none was made", x.many(3), 1);
    }

    private static void pagesByArea() {
        Handoverhouse x = new Handoverhouse();
        x.mast(10, 30, 0, 2, 1, 0);
        x.mast(11, 10, 1, 2, 1, 0);
        x.mast(90, 30, 1, 2, 2, 0);
        x.mast(50, 10, 2, 2, 3, 0);
        x.handset(0, 10, 0, 50);
        x.handset(0, 90, 0, 50);
        x.pass(1);
        Check.due("page: in its area", x.call(1, 0), 0);
        Check.due("page: two masts in area 1", x.many(8), 2);
        x.hang(0);
        x.turn(1, false);
        Check.due("page: off is not found", x.call(0, 1), -3);
        Check.due("page: area 2, then 1 and 3", x.many(8), 2 + 1 + 3);
        x.wake(1, false);
        x.call(0, 1);
        Check.due("page: not one that is asleep", x.many(8), 6 + 3);
        farAway();
        nextArea(0);
        nextArea(2);
    }

    /** A call carries its leg to another area; the register knows the old one still. */
    private static void farAway() {
        Handoverhouse x = carriedTo(3);
        Check.due("page: two areas away", x.call(1, 0), -3);
        Check.due("page: two areas away, would be found", x.many(13), 1);
        Check.due("page: two areas away, pages", x.many(8), 2);
    }

    private static void nextArea(int area) {
        Handoverhouse x = carriedTo(area);
        Check.due("page: in a next area but in a call", x.call(1, 0), -4);
        Check.due("page: in a next area, would be found", x.many(13), 2);
        Check.due("page: in a next area, pages", x.many(8), 3);
    }

    /** Handset 0, of which the register knows area 1, is in a call on a mast of this area; handset 1 is idle. */
    private static Handoverhouse carriedTo(int area) {
        Handoverhouse x = new Handoverhouse();
        x.mast(10, 30, 0, 4, 1, 0);
        x.handset(0, 10, 0, 50);
        x.handset(0, 10, 0, 50);
        x.pass(1);
        x.mast(90, 10, 2, 4, 1, 0);
        x.emergency(0);
        x.mast(10, 32, 1, 1, area, 0);
        x.pass(1);
        Check.due("carried: waits", x.ofHandset(0, 3), 0);
        x.pass(1);
        Check.due("carried: handed over", x.ofHandset(0, 3), 2);
        Check.due("carried: the register knows the old area", x.ofHandset(0, 5), 1);
        return x;
    }

    private static void pagesWithoutArea() {
        Handoverhouse x = twoMasts();
        x.mast(50, 10, 2, 1, 0, 0);
        x.handset(0, 45, 0, 10);
        x.wake(2, false);
        Check.due("page: on none", x.call(0, 2), -3);
        Check.due("page: all that are awake", x.many(8), 2);
        x.wake(2, true);
        x.forget();
        Check.due("page: forgotten", x.call(0, 1), 0);
        Check.due("page: all three", x.many(8), 5);
    }

    private static void busy() {
        Handoverhouse x = oneMast(4, 3);
        x.call(1, 2);
        Check.due("call: it is in a call", x.call(0, 1), -4);
        Check.due("call: paged all the same", x.many(8), 2);
    }

    private static void channelsOnTwoMasts() {
        Handoverhouse x = twoMasts();
        x.handset(0, 80, 0, 10);
        x.pass(1);
        x.emergency(2);
        Check.due("call: none free on the other one's mast", x.call(0, 1), -5);
        Check.due("call: none free on the caller's mast", x.call(1, 0), -5);
        Check.due("call: paged all the same", x.many(8), 2);
    }

    private static void channelsOnOneMast() {
        Handoverhouse one = oneMast(1, 2);
        Check.due("call: one channel for two", one.call(0, 1), -5);
        Handoverhouse two = oneMast(2, 2);
        Check.due("call: two channels for two", two.call(0, 1), 0);
        Handoverhouse three = oneMast(3, 4);
        three.call(0, 1);
        Check.due("call: one channel left", three.call(2, 3), -5);
    }

    private static void balance() {
        Handoverhouse x = oneMast(4, 0);
        x.handset(0, 50, 0, 2);
        x.handset(0, 50, 0, 0);
        x.pass(1);
        Check.due("call: balance 2", x.call(0, 1), -6);
        x.top(0, 1);
        Check.due("call: balance 3", x.call(0, 1), 0);
    }

    private static void answersInOrder() {
        Handoverhouse x = oneMast(1, 0);
        x.handset(0, 50, 0, 0);
        x.handset(0, 50, 0, 0);
        Check.due("call: -2 ahead of -3", x.call(0, 1), -2);
        x.pass(1);
        x.turn(1, false);
        Check.due("call: -3 ahead of -5", x.call(0, 1), -3);
        x.turn(1, true);
        x.pass(1);
        Check.due("call: -5 ahead of -6", x.call(0, 1), -5);
        x.emergency(1);
        Check.due("call: -4 ahead of -5", x.call(0, 1), -4);
    }

    private static void callRefused() {
        Handoverhouse x = twoMasts();
        Check.noNumber("call: from -1", x, () -> x.call(-1, 0));
        Check.noNumber("call: from 2", x, () -> x.call(2, 0));
        Check.noNumber("call: to -1", x, () -> x.call(0, -1));
        Check.noNumber("call: to 2", x, () -> x.call(0, 2));
        Check.noNumber("call: no such one twice", x, () -> x.call(2, 2));
        Check.noArgument("call: itself", x, () -> x.call(1, 1));
    }

    private static void callsEver() {
        Handoverhouse x = oneMast(2, 2);
        for (int c = 0; c < 24; c++) {
            Check.due("calls ever: " + c, c % 2 == 0 ? x.call(0, 1) : x.emergency(1), c);
            x.hang(c);
        }
        Check.noState("calls ever: call", x, () -> x.call(0, 1));
        Check.noState("calls ever: emergency", x, () -> x.emergency(0));
        Check.noArgument("calls ever: call itself", x, () -> x.call(1, 1));
        Check.noNumber("calls ever: call of none", x, () -> x.call(0, 2));
        Check.noNumber("calls ever: emergency of none", x, () -> x.emergency(2));
        x.turn(0, false);
        Check.noState("calls ever: thrown ahead of -2", x, () -> x.emergency(0));
        Check.noState("calls ever: thrown ahead of -2 of call", x, () -> x.call(0, 1));
    }

    private static void emergency() {
        Handoverhouse x = oneMast(2, 0);
        x.handset(1, 50, 0, 0);
        Check.due("emergency: on none", x.emergency(0), -2);
        x.pass(1);
        Check.due("emergency", x.emergency(0), 0);
        int[] due = {0, -1, 0, 0, 0, 0, 0, 0, -1};
        for (int what = 0; what <= 8; what++) {
            Check.due("emergency: of " + what, x.ofCall(0, what), due[what]);
        }
        Check.due("emergency: one leg", x.ofMast(0, 7), 1);
        Check.due("emergency: pages nobody", x.many(8), 0);
        Check.due("emergency: in a call", x.emergency(0), -2);
        x.pass(5);
        Check.due("emergency: goes on", x.ofCall(0, 6), 0);
        Check.due("emergency: seconds", x.ofCall(0, 2), 5);
        Check.due("emergency: pays nothing", x.ofCall(0, 3), 0);
        Check.due("emergency: carried one leg", x.ofMast(0, 9), 5);
        x.hang(0);
        x.turn(0, false);
        Check.due("emergency: off", x.emergency(0), -2);
    }

    private static void pushOut() {
        Handoverhouse x = oneMast(4, 7);
        x.call(0, 1);
        x.call(2, 3);
        Check.due("push: the newest call goes", x.emergency(4), 2);
        Check.due("push: it was pushed out", x.ofCall(1, 6), 4);
        Check.due("push: the older one goes on", x.ofCall(0, 6), 0);
        Check.due("push: load", x.ofMast(0, 7), 3);
        Check.due("push: its handset is idle there", x.ofHandset(3, 3), 0);
        Check.due("push: its handset is in no call", x.ofHandset(3, 7), -1);
        Check.due("push: a free channel", x.emergency(5), 3);
        Check.due("push: nobody had to go", x.ofCall(0, 6), 0);
        Check.due("push: no emergency goes", x.emergency(6), 4);
        Check.due("push: but the older call", x.ofCall(0, 6), 4);
        Check.due("push: again a free channel", x.emergency(0), 5);
        Check.due("push: all are emergencies", x.emergency(1), -5);
        Check.due("push: no call for -5", x.many(3), 6);
        Check.due("push: where it was as it ended", x.ofCall(1, 7), 0);
    }

    /** The newest call has no leg on the mast that is full, so an older one goes; by its second leg as well. */
    private static void pushOutOnlyThere() {
        Handoverhouse x = new Handoverhouse();
        x.mast(10, 30, 0, 2, 1, 0);
        x.mast(80, 30, 1, 4, 2, 0);
        x.handset(0, 80, 0, 10);
        x.handset(0, 10, 0, 10);
        x.handset(0, 80, 0, 10);
        x.handset(0, 80, 0, 10);
        x.handset(0, 10, 0, 10);
        x.handset(0, 10, 0, 10);
        x.pass(1);
        x.call(0, 1);
        x.call(2, 3);
        x.emergency(4);
        Check.due("push there: load", x.ofMast(0, 7), 2);
        Check.due("push there", x.emergency(5), 3);
        Check.due("push there: the one with a leg there", x.ofCall(0, 6), 4);
        Check.due("push there: not the newest", x.ofCall(1, 6), 0);
        Check.due("push there: load of the other mast", x.ofMast(1, 7), 2);
    }

    private static void emergencyRefused() {
        Handoverhouse x = twoMasts();
        Check.noNumber("emergency: -1", x, () -> x.emergency(-1));
        Check.noNumber("emergency: 2", x, () -> x.emergency(2));
    }

    private static void hang() {
        Handoverhouse x = twoMasts();
        x.call(0, 1);
        x.pass(4);
        Check.noNumber("hang: -1", x, () -> x.hang(-1));
        Check.noNumber("hang: 1", x, () -> x.hang(1));
        Check.due("hang", x.hang(0), 4);
        Check.due("hang: how it ended", x.ofCall(0, 6), 1);
        Check.due("hang: idle", x.ofHandset(0, 7), -1);
        Check.due("hang: the other one idle", x.ofHandset(1, 7), -1);
        Check.due("hang: on the mast of its leg", x.ofHandset(1, 3), 1);
        Check.due("hang: camps", x.ofMast(1, 8), 1);
        Check.due("hang: load", x.ofMast(0, 7) + x.ofMast(1, 7), 0);
        Check.noState("hang: again", x, () -> x.hang(0));
        x.emergency(0);
        Check.due("hang: at once", x.hang(1), 0);
    }

    private static void text() {
        Handoverhouse x = twoMasts();
        x.turn(0, false);
        Check.due("text: from one that is off", x.text(0, 1), 1);
        Check.due("text: a second one waits", x.text(0, 1), 2);
        Check.due("text: to the other one", x.text(1, 0), 1);
        Check.due("text: waits for it", x.ofHandset(1, 10), 2);
        Check.due("text: nothing got yet", x.ofHandset(1, 9), 0);
        Check.due("text: ever", x.many(9), 3);
        Check.due("text: wait", x.many(10), 3);
        x.pass(1);
        Check.due("text: got", x.ofHandset(1, 9), 2);
        Check.due("text: none waits", x.ofHandset(1, 10), 0);
        Check.due("text: off gets none", x.ofHandset(0, 9), 0);
        Check.due("text: still waits", x.many(10), 1);
        Check.due("text: counts those that wait", x.text(0, 1), 1);
        Check.noNumber("text: from -1", x, () -> x.text(-1, 0));
        Check.noNumber("text: from 2", x, () -> x.text(2, 0));
        Check.noNumber("text: to -1", x, () -> x.text(0, -1));
        Check.noNumber("text: to 2", x, () -> x.text(0, 2));
        Check.noNumber("text: no such one twice", x, () -> x.text(-1, -1));
        Check.noArgument("text: itself", x, () -> x.text(0, 0));
    }

    private static void textsEver() {
        Handoverhouse x = twoMasts();
        for (int t = 0; t < 24; t++) {
            Check.due("texts ever: " + t, x.text(0, 1), t % 12 + 1);
            if (t == 11) {
                x.pass(1);
            }
        }
        Check.noState("texts ever", x, () -> x.text(0, 1));
        Check.noArgument("texts ever: itself", x, () -> x.text(0, 0));
        Check.noNumber("texts ever: no such one", x, () -> x.text(0, 2));
        x.pass(1);
        Check.noState("texts ever: none waits", x, () -> x.text(0, 1));
    }

    private static void forget() {
        Handoverhouse x = twoMasts();
        x.handset(0, 45, 0, 10);
        x.turn(1, false);
        Check.due("forget: two were known", x.forget(), 2);
        Check.due("forget: known", x.ofHandset(0, 5), -1);
        Check.due("forget: told", x.ofHandset(0, 6), 1);
        Check.due("forget: none is known", x.forget(), 0);
        x.pass(1);
        Check.due("forget: no handset knows that", x.ofHandset(0, 5), -1);
        x.pass(19);
        Check.due("forget: told again in the end", x.ofHandset(0, 5), 1);
        Check.due("forget: one is known", x.forget(), 1);
    }
}
