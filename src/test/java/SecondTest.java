/** Promise 13, pass, and with it what the document says of a second. */
public final class SecondTest {
    public static void main(String[] args) {
        refused();
        endedCalls();
        move();
        moveAll();
        camp();
        campStays();
        campStaysWithQualityOne();
        campLeavesOneNotHeard();
        tell();
        handOver();
        handOverNeedsFour();
        handOverNeedsTwoInARow();
        handOverNeedsChannel();
        handOverNeedsAwake();
        handOverToSmallestOfEquals();
        handOverWaitsAnewOnTheNewOne();
        handOverOfOtherLeg();
        rescue();
        pingPong(2, 1);
        pingPong(5, 1);
        pingPong(6, 0);
        pingPongOfLastOnly();
        drop();
        badStartsAnew();
        badStaysBehindHandover();
        handOverToOneNotHeard();
        otherLegOfDroppedCall();
        loadsChangeLegByLeg();
        charge();
        withoutCredit();
        texts();
        Check.end();
    }

    private static void refused() {
        Handoverhouse x = new Handoverhouse();
        Check.noArgument("pass: 0", x, () -> x.pass(0));
        Check.noArgument("pass: 100", x, () -> x.pass(100));
        Check.noArgument("pass: -1", x, () -> x.pass(-1));
        Check.due("pass: 1", x.pass(1), 0);
        Check.due("pass: 99", x.pass(99), 0);
        Check.due("pass: now", x.many(0), 100);
    }

    private static void endedCalls() {
        Handoverhouse x = new Handoverhouse();
        x.mast(50, 30, 0, 4, 0, 0);
        for (int h = 0; h < 4; h++) {
            x.handset(0, 50, 0, 3 + h);
        }
        x.pass(1);
        x.call(0, 1);
        x.call(2, 3);
        Check.due("pass: none ends", x.pass(3), 0);
        Check.due("pass: both end", x.pass(5), 2);
        Check.due("pass: none is left", x.pass(5), 0);
    }

    private static void move() {
        moves(50, 0, 50, 0);
        moves(50, 3, 53, 3);
        moves(50, -2, 48, -2);
        moves(3, -3, 0, -3);
        moves(0, -1, 1, 1);
        moves(1, -3, 2, 3);
        moves(96, 3, 99, 3);
        moves(99, 3, 96, -3);
        moves(98, 2, 98, -2);
    }

    private static void moves(int place, int speed, int placeDue, int speedDue) {
        Handoverhouse x = new Handoverhouse();
        x.handset(0, place, speed, 0);
        x.pass(1);
        Check.due("move: place of " + place + " by " + speed, x.ofHandset(0, 0), placeDue);
        Check.due("move: speed of " + place + " by " + speed, x.ofHandset(0, 1), speedDue);
    }

    private static void moveAll() {
        Handoverhouse x = new Handoverhouse();
        x.mast(50, 60, 0, 4, 0, 0);
        x.handset(0, 50, 1, 10);
        x.handset(0, 50, 2, 10);
        x.handset(0, 50, 3, 10);
        x.pass(1);
        x.call(0, 1);
        x.turn(2, false);
        x.pass(1);
        Check.due("move: in a call", x.ofHandset(0, 0), 52);
        Check.due("move: in a call too", x.ofHandset(1, 0), 54);
        Check.due("move: off", x.ofHandset(2, 0), 56);
    }

    private static void camp() {
        Handoverhouse x = new Handoverhouse();
        x.mast(0, 10, 0, 4, 0, 1);
        x.mast(0, 10, 1, 4, 0, 0);
        x.mast(90, 10, 1, 4, 0, 0);
        x.handset(0, 9, 0, 0);
        x.handset(0, 10, 0, 0);
        x.handset(0, 90, 0, 0);
        x.pass(1);
        Check.due("camp: quality 1, the smallest of two, of any operator", x.ofHandset(0, 3), 0);
        Check.due("camp: quality 0", x.ofHandset(1, 3), -1);
        Check.due("camp: the best", x.ofHandset(2, 3), 2);
    }

    private static void campStays() {
        for (int more = 1; more <= 4; more++) {
            Handoverhouse x = new Handoverhouse();
            x.mast(20, 30, 0, 4, 0, 0);
            x.handset(0, 20, 0, 0);
            x.pass(1);
            x.mast(20, 30 + more, 1, 4, 0, 0);
            x.pass(1);
            Check.due("camp: best is more by " + more, x.ofHandset(0, 3), more < 3 ? 0 : 1);
        }
    }

    private static void campStaysWithQualityOne() {
        Handoverhouse x = new Handoverhouse();
        x.mast(0, 20, 0, 4, 0, 0);
        x.handset(0, 19, 0, 0);
        x.pass(1);
        x.mast(19, 10, 1, 4, 0, 0);
        x.wake(1, false);
        x.mast(40, 24, 1, 4, 0, 0);
        Check.due("camp: best is more by 2", x.quality(2, 19), 3);
        x.pass(1);
        Check.due("camp: quality 1 is heard", x.ofHandset(0, 3), 0);
    }

    private static void campLeavesOneNotHeard() {
        Handoverhouse x = new Handoverhouse();
        x.mast(0, 20, 0, 4, 0, 0);
        x.handset(0, 19, 1, 0);
        x.pass(1);
        Check.due("camp: not heard", x.ofHandset(0, 3), -1);
        x.speed(0, -1);
        x.pass(1);
        Check.due("camp: heard again", x.ofHandset(0, 3), 0);
        x.speed(0, 1);
        x.mast(40, 21, 1, 4, 0, 0);
        x.pass(1);
        Check.due("camp: leaves it for one that is better by 1", x.ofHandset(0, 3), 1);
    }

    private static void tell() {
        Handoverhouse x = new Handoverhouse();
        x.mast(0, 30, 0, 4, 1, 0);
        x.mast(60, 30, 0, 4, 3, 0);
        x.handset(0, 20, 0, 0);
        x.pass(1);
        Check.due("tell: at first", x.ofHandset(0, 8), 1);
        Check.due("tell: known", x.ofHandset(0, 5), 1);
        Check.due("tell: told", x.ofHandset(0, 6), 1);
        x.pass(19);
        Check.due("tell: 19 seconds later", x.ofHandset(0, 8), 1);
        x.pass(1);
        Check.due("tell: 20 seconds later", x.ofHandset(0, 8), 2);
        x.speed(0, 3);
        x.pass(6);
        Check.due("tell: on another one", x.ofHandset(0, 3), 1);
        Check.due("tell: in another area", x.ofHandset(0, 5), 3);
        Check.due("tell: updates", x.ofHandset(0, 8), 3);
        x.speed(0, 0);
        x.emergency(0);
        x.pass(30);
        Check.due("tell: not in a call", x.ofHandset(0, 8), 3);
        x.hang(0);
        x.pass(1);
        Check.due("tell: behind the call", x.ofHandset(0, 8), 4);
        Check.due("tell: all updates", x.many(11), 4);
    }

    /** Handset 0 at place 50 in an emergency on mast 0, of quality 28 there; it is second 1. */
    private static Handoverhouse inEmergency() {
        Handoverhouse x = new Handoverhouse();
        x.mast(50, 30, 0, 4, 0, 0);
        x.handset(0, 50, 0, 0);
        x.pass(1);
        x.emergency(0);
        return x;
    }

    private static void handOver() {
        Handoverhouse x = inEmergency();
        x.mast(50, 32, 1, 4, 1, 0);
        x.pass(1);
        Check.due("handover: waits", x.ofCall(0, 7), 0);
        x.pass(1);
        Check.due("handover", x.ofCall(0, 7), 1);
        Check.due("handover: the handset is there", x.ofHandset(0, 3), 1);
        Check.due("handover: counted", x.ofCall(0, 4), 1);
        Check.due("handover: counted in all", x.many(6), 1);
        Check.due("handover: load left", x.ofMast(0, 7), 0);
        Check.due("handover: load", x.ofMast(1, 7), 1);
        Check.due("handover: carried before", x.ofMast(0, 9), 1);
        Check.due("handover: carried behind", x.ofMast(1, 9), 1);
        Check.due("handover: no ping-pong", x.ofCall(0, 5), 0);
        Check.due("handover: tells nobody", x.ofHandset(0, 6), 0);
    }

    private static void handOverNeedsFour() {
        Handoverhouse x = inEmergency();
        x.mast(50, 31, 1, 4, 1, 0);
        x.pass(5);
        Check.due("handover: not with 3 more", x.ofCall(0, 4), 0);
    }

    private static void handOverNeedsTwoInARow() {
        Handoverhouse x = inEmergency();
        x.mast(50, 32, 1, 4, 1, 0);
        x.pass(1);
        x.wake(1, false);
        x.pass(1);
        x.wake(1, true);
        x.pass(1);
        Check.due("handover: waits anew", x.ofCall(0, 4), 0);
        x.pass(1);
        Check.due("handover: two in a row", x.ofCall(0, 4), 1);
    }

    private static void handOverNeedsChannel() {
        Handoverhouse x = inEmergency();
        x.mast(50, 34, 1, 1, 1, 0);
        x.handset(0, 50, 0, 0);
        x.pass(1);
        Check.due("channel: the only one is taken", x.emergency(1), 1);
        Check.due("channel: it would be better by 4", x.quality(1, 50) - x.quality(0, 50), 4);
        x.pass(3);
        Check.due("channel: not to a full one", x.ofCall(0, 4), 0);
        x.mast(50, 33, 2, 1, 1, 0);
        x.wake(2, false);
        x.hang(1);
        x.pass(1);
        Check.due("channel: waits for the free one", x.ofCall(0, 7), 0);
        x.emergency(1);
        x.wake(2, true);
        x.pass(1);
        Check.due("channel: to the best with a free one", x.ofCall(0, 7), 2);
    }

    private static void handOverNeedsAwake() {
        Handoverhouse x = inEmergency();
        x.mast(50, 60, 1, 4, 1, 0);
        x.wake(1, false);
        x.pass(5);
        Check.due("handover: not to one asleep", x.ofCall(0, 4), 0);
    }

    private static void handOverToSmallestOfEquals() {
        Handoverhouse x = inEmergency();
        x.mast(50, 32, 1, 4, 1, 0);
        x.mast(50, 32, 2, 4, 1, 0);
        x.pass(2);
        Check.due("handover: the smallest of two", x.ofCall(0, 7), 1);
    }

    private static void handOverWaitsAnewOnTheNewOne() {
        Handoverhouse x = inEmergency();
        x.mast(50, 32, 1, 4, 1, 0);
        x.pass(2);
        x.mast(50, 34, 2, 4, 1, 0);
        x.pass(1);
        Check.due("handover: waits on the new one", x.ofCall(0, 7), 1);
        x.pass(1);
        Check.due("handover: to a third one", x.ofCall(0, 7), 2);
    }

    private static void handOverOfOtherLeg() {
        Handoverhouse x = new Handoverhouse();
        x.mast(50, 60, 0, 4, 0, 0);
        x.handset(0, 50, 0, 50);
        x.handset(0, 80, 0, 50);
        x.pass(1);
        x.call(0, 1);
        x.mast(99, 60, 1, 4, 0, 0);
        x.pass(2);
        Check.due("handover of the other leg: caller's", x.ofCall(0, 7), 0);
        Check.due("handover of the other leg", x.ofCall(0, 8), 1);
        Check.due("handover of the other leg: handset", x.ofHandset(1, 3), 1);
        Check.due("handover of the other leg: carried", x.ofMast(0, 9), 3);
        Check.due("handover of the other leg: carried there", x.ofMast(1, 9), 1);
        Check.due("handover of the other leg: load", x.ofMast(0, 7), 1);
    }

    /** Its own is not heard, and one that is better by less than 4 is: it goes there at once. */
    private static void rescue() {
        Handoverhouse x = new Handoverhouse();
        x.mast(0, 20, 0, 4, 0, 0);
        x.handset(0, 18, 0, 0);
        x.pass(1);
        x.emergency(0);
        x.mast(50, 33, 1, 4, 0, 0);
        Check.due("rescue: own", x.quality(0, 18), 0);
        Check.due("rescue: candidate", x.quality(1, 18), 1);
        x.pass(1);
        Check.due("rescue: at once", x.ofCall(0, 4), 1);
        Check.due("rescue: where", x.ofCall(0, 7), 1);
    }

    /** Away from mast 0 and back to it so many seconds later. */
    private static void pingPong(int later, int due) {
        Handoverhouse x = inEmergency();
        x.mast(50, 32, 1, 4, 1, 0);
        x.pass(2);
        Check.due("ping-pong: away", x.ofCall(0, 7), 1);
        if (later > 2) {
            x.pass(later - 2);
        }
        x.mast(50, 20, 1, 4, 1, 0);
        x.pass(2);
        Check.due("ping-pong: back", x.ofCall(0, 7), 0);
        Check.due("ping-pong: handovers", x.ofCall(0, 4), 2);
        Check.due("ping-pong: " + later + " seconds later", x.ofCall(0, 5), due);
        Check.due("ping-pong: in all", x.many(7), due);
    }

    private static void pingPongOfLastOnly() {
        Handoverhouse x = inEmergency();
        x.mast(50, 32, 1, 4, 1, 0);
        x.pass(2);
        x.mast(50, 34, 2, 4, 1, 0);
        x.pass(2);
        Check.due("ping-pong: on a third one", x.ofCall(0, 7), 2);
        x.wake(1, false);
        x.mast(50, 30, 2, 4, 1, 0);
        x.pass(2);
        Check.due("ping-pong: back on the first one", x.ofCall(0, 7), 0);
        Check.due("ping-pong: it left another one last", x.ofCall(0, 5), 0);
    }

    private static void drop() {
        Handoverhouse x = new Handoverhouse();
        x.mast(0, 20, 0, 4, 0, 0);
        x.handset(0, 12, 3, 0);
        x.pass(1);
        x.emergency(0);
        Check.due("drop: not yet", x.pass(2), 0);
        Check.due("drop", x.pass(1), 1);
        Check.due("drop: how it ended", x.ofCall(0, 6), 2);
        Check.due("drop: seconds", x.ofCall(0, 2), 2);
        Check.due("drop: counted", x.many(5), 1);
        Check.due("drop: on the mast of its leg", x.ofHandset(0, 3), 0);
        Check.due("drop: where", x.ofCall(0, 7), 0);
        Check.due("drop: load", x.ofMast(0, 7), 0);
        x.pass(1);
        Check.due("drop: then idle", x.ofHandset(0, 3), -1);
    }

    private static void badStartsAnew() {
        Handoverhouse x = new Handoverhouse();
        x.mast(0, 20, 0, 4, 0, 0);
        x.handset(0, 16, 0, 0);
        x.pass(1);
        x.emergency(0);
        x.speed(0, 3);
        x.pass(1);
        x.speed(0, -3);
        x.pass(1);
        Check.due("bad: heard again", x.quality(0, 16), 2);
        x.speed(0, 3);
        Check.due("bad: anew", x.pass(2), 0);
        Check.due("bad: dropped", x.pass(1), 1);
        Check.due("bad: seconds", x.ofCall(0, 2), 4);
    }

    /** The new mast is heard without the leg, but not with it: BAD is neither more nor 0. */
    private static void badStaysBehindHandover() {
        Handoverhouse x = new Handoverhouse();
        x.mast(0, 20, 0, 4, 0, 0);
        x.handset(0, 18, 0, 0);
        x.pass(1);
        x.emergency(0);
        x.speed(0, 3);
        x.pass(1);
        x.speed(0, 0);
        x.mast(50, 30, 1, 4, 0, 0);
        x.pass(1);
        Check.due("bad behind a handover: where", x.ofCall(0, 7), 1);
        Check.due("bad behind a handover: not heard", x.quality(1, 21), -1);
        Check.due("bad behind a handover: not heard before", x.quality(0, 21), -1);
        Check.due("bad behind a handover", x.pass(1), 0);
        Check.due("bad behind a handover: dropped", x.pass(1), 1);
        Check.due("bad behind a handover: how", x.ofCall(0, 6), 2);
    }

    /** WAIT of 2 hands it over, though the new mast is not heard either. */
    private static void handOverToOneNotHeard() {
        Handoverhouse x = new Handoverhouse();
        x.mast(0, 20, 0, 4, 0, 0);
        x.handset(0, 19, 0, 0);
        x.pass(1);
        x.emergency(0);
        x.speed(0, 3);
        x.pass(1);
        x.speed(0, 0);
        x.mast(50, 28, 1, 4, 0, 0);
        Check.due("not heard: candidate", x.quality(1, 22), 0);
        x.pass(1);
        Check.due("not heard: waits", x.ofCall(0, 7), 0);
        Check.due("not heard: not dropped", x.pass(1), 0);
        Check.due("not heard: handed over", x.ofCall(0, 7), 1);
        Check.due("not heard: dropped", x.pass(1), 1);
        Check.due("not heard: handovers", x.ofCall(0, 4), 1);
    }

    private static void otherLegOfDroppedCall() {
        Handoverhouse x = new Handoverhouse();
        x.mast(10, 20, 0, 4, 0, 0);
        x.handset(0, 25, 3, 50);
        x.handset(0, 0, 0, 50);
        x.handset(0, 10, 0, 50);
        x.speed(0, 0);
        x.pass(1);
        x.call(0, 1);
        x.speed(0, 3);
        x.pass(1);
        x.mast(0, 10, 1, 4, 0, 0);
        Check.due("other leg: own", x.quality(0, 0), 6);
        Check.due("other leg: candidate", x.quality(1, 0), 10);
        x.pass(1);
        Check.due("other leg: dropped", x.pass(1), 1);
        Check.due("other leg: how", x.ofCall(0, 6), 2);
        Check.due("other leg: looked at no more", x.ofCall(0, 4), 0);
        Check.due("other leg: where", x.ofCall(0, 8), 0);
    }

    /** Both legs wait; but as the caller's is handed over, the loads are such that the other one stays. */
    private static void loadsChangeLegByLeg() {
        Handoverhouse x = new Handoverhouse();
        x.mast(10, 30, 0, 4, 0, 0);
        x.handset(0, 10, 0, 50);
        x.handset(0, 10, 0, 50);
        x.pass(1);
        x.call(0, 1);
        x.mast(10, 30, 1, 4, 0, 0);
        x.pass(3);
        Check.due("leg by leg: caller", x.ofCall(0, 7), 1);
        Check.due("leg by leg: other one", x.ofCall(0, 8), 0);
        Check.due("leg by leg: handovers", x.ofCall(0, 4), 1);
    }

    private static void charge() {
        Handoverhouse x = new Handoverhouse();
        x.mast(50, 60, 0, 4, 0, 0);
        x.handset(0, 50, 0, 20);
        x.handset(1, 50, 0, 20);
        x.handset(1, 50, 0, 20);
        x.handset(0, 50, 0, 20);
        x.pass(1);
        x.call(0, 1);
        x.call(2, 3);
        x.pass(3);
        Check.due("charge: its own operator", x.ofCall(0, 3), 3);
        Check.due("charge: another operator", x.ofCall(1, 3), 9);
        Check.due("charge: balance", x.ofHandset(0, 4), 17);
        Check.due("charge: balance of the other one", x.ofHandset(1, 4), 20);
        Check.due("charge: balance of 2", x.ofHandset(2, 4), 11);
        Check.due("charge: seconds", x.ofCall(1, 2), 3);
        Check.due("charge: carried", x.ofMast(0, 9), 12);
        Check.due("charge: in all", x.many(12), 12);
    }

    private static void withoutCredit() {
        Handoverhouse x = new Handoverhouse();
        x.mast(50, 60, 0, 4, 0, 1);
        x.handset(0, 50, 0, 5);
        x.handset(0, 50, 0, 0);
        x.pass(1);
        x.call(0, 1);
        Check.due("credit: 5 is enough for 3", x.pass(1), 0);
        Check.due("credit: 2 is not", x.pass(1), 1);
        Check.due("credit: how", x.ofCall(0, 6), 3);
        Check.due("credit: nothing is paid", x.ofHandset(0, 4), 2);
        Check.due("credit: paid", x.ofCall(0, 3), 3);
        Check.due("credit: seconds", x.ofCall(0, 2), 1);
        Check.due("credit: carried", x.ofMast(0, 9), 2);
        Check.due("credit: idle on its mast", x.ofHandset(0, 3), 0);
        Check.due("credit: load", x.ofMast(0, 7), 0);
        x.top(0, 1);
        x.call(0, 1);
        Check.due("credit: 3 is enough", x.pass(1), 0);
        Check.due("credit: balance 0", x.ofHandset(0, 4), 0);
        Check.due("credit: 0 is not", x.pass(1), 1);
    }

    private static void texts() {
        Handoverhouse x = new Handoverhouse();
        x.handset(0, 50, 0, 5);
        x.handset(0, 50, 0, 5);
        x.text(0, 1);
        x.text(0, 1);
        x.pass(1);
        Check.due("texts: on none", x.ofHandset(1, 10), 2);
        x.mast(50, 60, 0, 4, 0, 1);
        Check.due("texts: not at once", x.ofHandset(1, 10), 2);
        x.pass(1);
        Check.due("texts: got", x.ofHandset(1, 9), 2);
        x.emergency(1);
        x.text(0, 1);
        x.pass(1);
        Check.due("texts: in a call", x.ofHandset(1, 9), 3);
        Check.due("texts: none waits", x.many(10), 0);
        Check.due("texts: ever", x.many(9), 3);
    }
}
