import java.util.Random;

/** All promises: long mixed runs of calls, the same each time, in which the class and the model have to agree. */
public final class MixedRunsTest {
    private static final int RUNS = 240;
    // An object is good for 512 calls; the last text of a run may take some more than this.
    private static final int CALLS = 505;
    private static final int[] FAR = {Integer.MIN_VALUE, Integer.MAX_VALUE, -1, -2, 24, 1000000, -106, 31, 32, 64};

    private final Check check;
    private final Random random;
    private final int run;
    private final ShuttleDoors x = new ShuttleDoors();
    private final Model model = new Model();
    // Runs differ in how close together flights and vans are, how full the vans get, and how often is asked for much.
    private final int span;
    private final int people;
    private int made = 0;

    private MixedRunsTest(Check check, int run) {
        this.check = check;
        this.run = run;
        random = new Random(run);
        span = new int[] {40, 150, 400, 1500}[run % 4];
        people = 1 + run / 4 % 4;
    }

    public static void main(String[] args) {
        Check check = new Check("MixedRunsTest");
        for (int run = 0; run < RUNS; run++) {
            new MixedRunsTest(check, run).run();
        }
        check.end();
    }

    private void run() {
        while (made < CALLS) {
            int kind = random.nextInt(100);
            if (kind < 40) {
                change();
            } else if (kind < 78) {
                ask();
            } else if (kind < 80) {
                whatIf();
            } else if (kind < 92) {
                text();
            } else {
                history();
            }
        }
    }

    /** Mostly in the range, at times at its edges, just outside or far off. */
    private int in(int least, int most) {
        int kind = random.nextInt(40);
        switch (kind) {
            case 0: return least;
            case 1: return most;
            case 2: return random.nextBoolean() ? least - 1 : most + 1;
            case 3: return FAR[random.nextInt(FAR.length)];
            default: return least + random.nextInt(most - least + 1);
        }
    }

    private void due(String call, int got, int due) {
        made++;
        check.same("run " + run + ": " + call, got, due);
        boolean isCode = got >= ShuttleDoors.NONE && got <= ShuttleDoors.NO_SUCH;
        check.holds("run " + run + ": " + call + " answered a code, or a number that can't be taken for one", isCode || got >= -30);
    }

    private void change() {
        int a = in(0, 5);
        int b;
        int c;
        int d;
        switch (random.nextInt(16)) {
            case 0:
                a = in(0, 4);
                b = a == 0 ? in(0, 90) : a == 1 ? in(0, 240) : a == 2 ? in(1, 6) : a == 3 ? in(0, 300) : in(0, 40);
                due("set(" + a + ", " + b + ")", x.set(a, b), model.set(a, b));
                break;
            case 1:
                b = random.nextInt(8) == 0 ? in(0, 1200) : in(0, Math.min(span, 1200));
                due("land(" + a + ", " + b + ")", x.land(a, b), model.land(a, b));
                break;
            case 2: case 3:
                b = random.nextInt(4) == 0 ? in(-30, 300) : in(-30, 40);
                due("delay(" + a + ", " + b + ")", x.delay(a, b), model.delay(a, b));
                break;
            case 4: case 5: case 6:
                a = in(0, 7);
                b = random.nextInt(8) == 0 ? in(0, 1500) : in(0, span);
                c = in(0, 12);
                due("van(" + a + ", " + b + ", " + c + ")", x.van(a, b, c), model.van(a, b, c));
                break;
            case 7:
                b = in(0, 23);
                due("cancel(" + b + ")", x.cancel(b), model.cancel(b));
                break;
            case 8: case 9:
                b = in(0, 15);
                due("rebook(" + b + ", " + a + ")", x.rebook(b, a), model.rebook(b, a));
                break;
            default:
                b = in(0, 5);
                c = random.nextInt(3) == 0 ? in(0, 99) : in(0, 2);
                d = in(1, people);
                due("ride(" + a + ", " + b + ", " + c + ", " + d + ")", x.ride(a, b, c, d), model.ride(a, b, c, d));
                break;
        }
    }

    private void ask() {
        int a = in(0, 7);
        int b;
        int c;
        switch (random.nextInt(8)) {
            case 0: case 1:
                a = in(0, 15);
                b = in(0, 9);
                due("rider(" + a + ", " + b + ")", x.rider(a, b), model.rider(a, b));
                break;
            case 2:
                b = in(0, 7);
                due("vanOf(" + a + ", " + b + ")", x.vanOf(a, b), model.vanOf(a, b));
                break;
            case 3:
                a = in(0, 5);
                b = in(0, 4);
                due("flight(" + a + ", " + b + ")", x.flight(a, b), model.flight(a, b));
                break;
            case 4:
                b = in(0, 3);
                c = in(0, 3);
                due("stop(" + a + ", " + b + ", " + c + ")", x.stop(a, b, c), model.stop(a, b, c));
                break;
            case 5: case 6:
                a = in(0, 15);
                due("count(" + a + ")", x.count(a), model.count(a));
                break;
            default:
                a = random.nextInt(8) == 0 ? in(0, 3000) : in(0, span);
                due("kerb(" + a + ")", x.kerb(a), model.kerb(a));
                break;
        }
    }

    private void whatIf() {
        int a = in(0, 5);
        switch (random.nextInt(8)) {
            case 0:
                due("mostDelay(" + a + ")", x.mostDelay(a), model.mostDelay(a));
                break;
            case 1:
                a = in(0, 7);
                due("bestMinute(" + a + ")", x.bestMinute(a), model.bestMinute(a));
                break;
            case 2: case 3:
                due("fullest()", x.fullest(), model.fullest());
                break;
            default:
                int b = in(-30, 300);
                int c = in(0, 2);
                due("ifDelayed(" + a + ", " + b + ", " + c + ")", x.ifDelayed(a, b, c), model.ifDelayed(a, b, c));
                break;
        }
    }

    private void text() {
        switch (random.nextInt(12)) {
            case 0:
                due("wipe()", x.wipe(), model.wipe());
                break;
            case 1: case 2:
                due("fault()", x.fault(), model.fault());
                break;
            case 3: case 4: case 5:
                due("read()", x.read(), model.read());
                break;
            case 6:
                put(random.nextLong() >>> random.nextInt(64));
                break;
            default:
                String text = (random.nextInt(4) > 0 && model.count(14) > 0 ? "," : "") + riders();
                for (int i = 0; i < text.length(); i += 8) {
                    put(Texts.number(text.substring(i, Math.min(i + 8, text.length()))));
                }
                break;
        }
    }

    private void put(long number) {
        due("put(" + number + ")", x.put(number), model.put(number));
    }

    private String riders() {
        StringBuilder text = new StringBuilder();
        int count = 1 + random.nextInt(3);
        for (int i = 0; i < count; i++) {
            text.append(i > 0 ? "," : "").append(random.nextInt(6)).append((char) ('a' + random.nextInt(6)));
            text.append(random.nextInt(random.nextBoolean() ? 100 : 12));
            if (random.nextBoolean()) {
                text.append('x').append(1 + random.nextInt(4));
            }
        }
        if (random.nextInt(12) == 0) {
            text.setCharAt(random.nextInt(text.length()), "0123456789abcdefghx,X!~".charAt(random.nextInt(23)));
        }
        if (random.nextInt(20) == 0) {
            text.setLength(1 + random.nextInt(text.length()));
        }
        return text.toString();
    }

    private void history() {
        int a = in(0, 1);
        switch (random.nextInt(8)) {
            case 0: case 1:
                due("save(" + a + ")", x.save(a), model.save(a));
                break;
            case 2:
                due("restore(" + a + ")", x.restore(a), model.restore(a));
                break;
            default:
                due("undo()", x.undo(), model.undo());
                break;
        }
    }
}
