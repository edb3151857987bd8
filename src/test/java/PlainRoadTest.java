import java.util.Random;
import java.util.function.LongSupplier;

/** Long runs of calls on Handoverhouse and on PlainRoad: each answer has to be the same. */
public final class PlainRoadTest {
    private static final long OTHER_ANSWER = Long.MIN_VALUE;
    private static final int RUNS = 120;
    /** With the digests and means in between they stay under the 512 that the document promises. */
    private static final int CALLS = 460;

    private final Random random;
    private final int run;
    private final Handoverhouse x = new Handoverhouse();
    private final PlainRoad plain = new PlainRoad();
    private final int maxMasts;
    private final int maxHandsets;
    private final int maxSpeed;
    private final int minPower;
    private final int maxChannels;
    private boolean differs;

    private PlainRoadTest(int run) {
        this.run = run;
        random = new Random(run);
        maxMasts = 1 + random.nextInt(7);
        maxHandsets = 2 + random.nextInt(8);
        maxSpeed = random.nextInt(4);
        minPower = 10 + random.nextInt(30);
        maxChannels = 1 + random.nextInt(4);
    }

    public static void main(String[] args) {
        int[] seen = new int[15];
        int[] ended = new int[5];
        for (int run = 0; run < RUNS; run++) {
            PlainRoadTest test = new PlainRoadTest(run);
            test.go();
            for (int what = 0; what < 15; what++) {
                seen[what] += test.plain.many(what);
            }
            for (PlainRoad.Call call : test.plain.calls) {
                ended[call.ended]++;
            }
        }
        for (int how = 1; how <= 4; how++) {
            Check.due("runs have calls that ended by " + how, ended[how] >= 10, true);
        }
        Check.due("runs have handovers", seen[6] >= 100, true);
        Check.due("runs have ping-pongs", seen[7] >= 10, true);
        Check.end();
    }

    private void go() {
        for (int i = 0; i < CALLS && !differs; i++) {
            any();
            if (i % 20 == 19) {
                same("digest", () -> x.digest(), () -> plain.digest());
                Check.due("run " + run + ": meanSeconds", x.meanSeconds(), plain.meanSeconds());
            }
        }
    }

    private int in(int least, int most) {
        return least + random.nextInt(most - least + 1);
    }

    /** Mostly a number that there is; seldom one beside it. */
    private int some(int count) {
        return random.nextInt(25) == 0 ? in(-1, count + 1) : random.nextInt(Math.max(1, count));
    }

    private int mostly(int least, int most) {
        return random.nextInt(60) == 0 ? (random.nextBoolean() ? least - 1 : most + 1) : in(least, most);
    }

    private int someMast() {
        return some(plain.masts.size());
    }

    private int someHandset() {
        return some(plain.handsets.size());
    }

    private int someCall() {
        return random.nextInt(3) == 0 ? some(plain.calls.size())
            : Math.max(0, plain.calls.size() - 1 - random.nextInt(3));
    }

    private void any() {
        int kind = random.nextInt(100);
        if (kind < 10 && plain.masts.size() < maxMasts) {
            tellMast();
        } else if (kind < 20 && plain.handsets.size() < maxHandsets) {
            tellHandset();
        } else if (kind < 45) {
            int seconds = random.nextInt(20) == 0 ? mostly(1, 99) : mostly(1, 6);
            same("pass " + seconds, () -> x.pass(seconds), () -> plain.pass(seconds));
        } else if (kind < 65) {
            change();
        } else if (kind < 75) {
            int from = someHandset();
            int to = someHandset();
            boolean due = random.nextInt(3) == 0 || plain.many(4) < 2;
            if (due) {
                same("call " + from + " " + to, () -> x.call(from, to), () -> plain.call(from, to));
            }
        } else if (kind < 81) {
            int from = someHandset();
            same("emergency " + from, () -> x.emergency(from), () -> plain.emergency(from));
        } else {
            ask();
        }
    }

    private void tellMast() {
        int[] t = {mostly(0, 99), mostly(minPower, 60), mostly(0, 2), mostly(1, maxChannels),
            mostly(0, 3), mostly(0, 1)};
        same("mast", () -> x.mast(t[0], t[1], t[2], t[3], t[4], t[5]), () -> plain.mast(t.clone()));
    }

    private void tellHandset() {
        int operator = mostly(0, 1);
        int place = mostly(0, 99);
        int speed = mostly(-maxSpeed, maxSpeed);
        int balance = random.nextBoolean() ? mostly(0, 999) : mostly(0, 20);
        same("handset", () -> x.handset(operator, place, speed, balance),
            () -> plain.handset(operator, place, speed, balance));
    }

    private void change() {
        int h = someHandset();
        int m = someMast();
        int c = someCall();
        boolean is = random.nextInt(3) > 0;
        switch (random.nextInt(8)) {
            case 0:
            case 1:
                int speed = mostly(-maxSpeed, maxSpeed);
                same("speed", () -> x.speed(h, speed), () -> plain.speed(h, speed));
                break;
            case 2:
                int money = mostly(1, random.nextBoolean() ? 10 : 999);
                same("top", () -> x.top(h, money), () -> plain.top(h, money));
                break;
            case 3:
                same("turn", () -> x.turn(h, is) ? 1 : 0, () -> plain.turn(h, is));
                break;
            case 4:
                same("wake", () -> x.wake(m, is) ? 1 : 0, () -> plain.wake(m, is));
                break;
            case 5:
                if (random.nextInt(4) == 0) {
                    same("hang", () -> x.hang(c), () -> plain.hang(c));
                }
                break;
            case 6:
                int to = someHandset();
                same("text", () -> x.text(h, to), () -> plain.text(h, to));
                break;
            default:
                if (random.nextInt(4) == 0) {
                    same("forget", () -> x.forget(), () -> plain.forget());
                }
                break;
        }
    }

    private void ask() {
        int h = someHandset();
        int m = someMast();
        int c = someCall();
        int place = mostly(0, 99);
        int seconds = mostly(1, 99);
        int what = in(-1, 15);
        switch (random.nextInt(9)) {
            case 0:
                same("quality", () -> x.quality(m, place), () -> plain.qualityAsked(m, place));
                break;
            case 1:
                same("best", () -> x.best(place), () -> plain.best(place));
                break;
            case 2:
                same("ofMast " + what, () -> x.ofMast(m, what), () -> plain.ofMast(m, what));
                break;
            case 3:
                same("ofHandset " + what, () -> x.ofHandset(h, what), () -> plain.ofHandset(h, what));
                break;
            case 4:
                same("ofCall " + what, () -> x.ofCall(c, what), () -> plain.ofCall(c, what));
                break;
            case 5:
                same("many " + what, () -> x.many(what), () -> plain.many(what));
                break;
            case 6:
                same("endsIn " + seconds, () -> x.endsIn(c, seconds), () -> plain.endsIn(c, seconds));
                break;
            case 7:
                same("wouldBeOn " + seconds, () -> x.wouldBeOn(h, seconds), () -> plain.wouldBeOn(h, seconds));
                break;
            default:
                int power = mostly(10, 60);
                int frequency = mostly(0, 2);
                same("bestPlace", () -> x.bestPlace(power, frequency), () -> plain.bestPlace(power, frequency));
                break;
        }
    }

    private void same(String what, LongSupplier call, LongSupplier plainly) {
        long got = answer(call);
        long due = answer(plainly);
        if (got != due) {
            differs = true;
            Check.tell("run " + run + ": " + what + " answered " + got + ", due is " + due);
        }
    }

    private static long answer(LongSupplier call) {
        try {
            return call.getAsLong();
        } catch (IndexOutOfBoundsException e) {
            return OTHER_ANSWER + 1;
        } catch (IllegalArgumentException e) {
            return OTHER_ANSWER + 2;
        } catch (IllegalStateException e) {
            return OTHER_ANSWER + 3;
        }
    }
}
