import java.util.ArrayDeque;
import java.util.List;
import java.util.Random;

/**
 * A call that answers a finding changes nothing but what found() tells: random runs on one object, and on another
 * the same runs without the calls that the first one refused; both must answer and show the same.
 */
public final class QuietTest {
    private static final int RUNS = 600;
    private static final int CALLS = 420;
    private static final Due due = new Due();
    private static int refused = 0;

    private final Random random;
    private final ArrayDeque<Edge.Call> plan = new ArrayDeque<>();
    private final SkyFees x = new SkyFees();
    private final SkyFees y = new SkyFees();

    private QuietTest(int run) {
        random = new Random(31L * run + 7);
    }

    public static void main(String[] args) {
        for (int run = 0; run < RUNS; run++) {
            new QuietTest(run).compare(run);
        }
        due.is("many were refused", refused > RUNS * CALLS / 10 ? 1 : 0, 1);
        due.end();
    }

    private static int allFound(SkyFees x) {
        int sum = 0;
        for (int n : View.found(x)) {
            sum += n;
        }
        return sum;
    }

    private void compare(int run) {
        for (int i = 0; i < CALLS; i++) {
            while (plan.isEmpty()) {
                planMore();
            }
            Edge.Call call = plan.poll();
            int before = allFound(x);
            int answer = call.on(x);
            if (allFound(x) != before) {
                refused++;
            } else {
                due.is("run " + run + ", call " + i, call.on(y), answer);
            }
        }
        due.is("run " + run + ", nothing was refused", allFound(y), 0);
        List<Integer> shown = View.of(x, run % View.PARTS);
        due.is("run " + run + " shows the same", View.of(y, run % View.PARTS).equals(shown) ? 1 : 0, 1);
    }

    private int pick(int least, int most) {
        int at = random.nextInt(24);
        if (at < 2) {
            return at == 0 ? least - 1 : most + 1;
        }
        return least + random.nextInt(most - least + 1);
    }

    private void planMore() {
        switch (random.nextInt(6)) {
            case 0:
                planSky();
                break;
            case 1:
                planAirline();
                break;
            case 2:
                planLaw();
                break;
            case 3:
                planFlight();
                break;
            case 4:
                planDays();
                break;
            default:
                planSheet();
                break;
        }
    }

    private void planSky() {
        int cell = pick(0, 63);
        int land = pick(-1, 7);
        int v = pick(0, 9999);
        int w = pick(1, 9999);
        boolean is = random.nextBoolean();
        int sheet = pick(0, 3);
        plan.add(x -> x.cell(cell, land));
        plan.add(x -> x.shut(cell, is));
        plan.add(x -> x.land(land, v, w));
        plan.add(x -> x.rate(land, w));
        plan.add(x -> x.block(sheet, cell));
        plan.add(x -> x.landIs(land, v % 10));
    }

    private void planAirline() {
        int coin = random.nextBoolean() ? pick(0, 999999) : pick(0, 500);
        int kind = pick(0, 5);
        int airline = pick(0, 7);
        int weight = pick(1, 600);
        int land = pick(0, 7);
        int n = random.nextBoolean() ? pick(1, 99999) : pick(1, 9);
        boolean ends = random.nextInt(12) == 0;
        plan.add(x -> x.airline(coin));
        plan.add(x -> x.plane(kind, airline, weight));
        plan.add(x -> x.as(airline, kind));
        plan.add(x -> x.planeIs(airline, kind));
        plan.add(x -> x.earn(airline, n));
        plan.add(x -> x.pay(airline, land, n));
        if (ends) {
            plan.add(x -> x.end(airline));
        }
    }

    private void planLaw() {
        String[] texts = {"1", "0", "l=2", "w*2-m/5", "w+", "(k|a", "2", "d>50", "12345", "l+w/0"};
        String text = texts[random.nextInt(texts.length)];
        int use = pick(0, 3);
        int day = random.nextBoolean() ? pick(0, 3000) : 0;
        for (int i = 0; i < text.length(); i++) {
            char sign = text.charAt(i);
            plan.add(x -> x.feed(sign, 1));
        }
        int n = pick(1, 8);
        int plane = pick(0, 5);
        boolean more = random.nextInt(10) == 0;
        if (more) {
            plan.add(x -> x.feed(0x3131313131313131L, n));
        }
        plan.add(x -> x.law(use, day));
        plan.add(x -> x.force(use, day));
        plan.add(x -> x.says(n, plane, n - 2, use));
    }

    /** A row of cells that are mostly next to one another, with gaps or without. */
    private void planRow(int sheet, boolean gaps) {
        int n = pick(2, random.nextInt(4) == 0 ? 12 : 5);
        plan.add(x -> x.sheet(sheet, 8, n));
        int at = random.nextInt(64);
        int[] steps = {1, -1, 8, -8};
        for (int i = 0; i < n; i++) {
            int place = i;
            int v = gaps && i > 0 && i < n - 1 && random.nextInt(3) == 0 ? -1 : at;
            plan.add(x -> x.put(sheet, place, v));
            int next = at + steps[random.nextInt(4)];
            for (int t = 0; t < 20 && (next < 0 || next > 63 || Math.abs(next % 8 - at % 8) > 1); t++) {
                next = at + steps[random.nextInt(4)];
            }
            at = next;
        }
    }

    private void planFlight() {
        int sheet = random.nextInt(4);
        int plane = pick(0, 4);
        int flight = pick(0, 12);
        int land = pick(0, 7);
        boolean flown = random.nextBoolean();
        planRow(sheet, flown);
        plan.add(x -> flown ? x.fly(flight, sheet) : x.file(plane, sheet));
        plan.add(x -> x.bill(flight));
        plan.add(x -> x.right(flight));
        plan.add(x -> x.fee(flight, land));
        plan.add(x -> x.row(flight, land, plane));
        plan.add(x -> x.miles(flight, land, land * 20 - 1, plane));
        plan.add(x -> x.beside(land, flown));
        plan.add(x -> x.flightIs(flight, land));
    }

    private void planDays() {
        int n = random.nextInt(3) == 0 ? pick(1, 200) : pick(1, 5);
        int v = pick(0, 999);
        int plane = pick(0, 4);
        int from = pick(0, 63);
        int to = pick(0, 63);
        int what = pick(-2, 14);
        int act = pick(0, 3);
        int keep = random.nextInt(8);
        plan.add(x -> x.go(n));
        plan.add(x -> x.fuel(v));
        plan.add(x -> x.cheapest(plane, from, to, what));
        plan.add(x -> x.gain(plane, from, to, what));
        plan.add(x -> x.voice(plane, act, v));
        plan.add(x -> x.trace(act));
        if (keep < 2) {
            plan.add(x -> keep == 0 ? x.image() : x.restore());
        }
    }

    private void planSheet() {
        int sheet = pick(0, 3);
        int other = pick(0, 3);
        int bits = 8 * pick(0, 4);
        int n = pick(0, 24);
        int i = pick(0, 10);
        int v = pick(-1, 63);
        int what = pick(0, 12);
        plan.add(x -> x.sheet(sheet, bits, n));
        plan.add(x -> x.put(sheet, i, v));
        plan.add(x -> x.put(other, v % 24, i));
        plan.add(x -> x.move(sheet, i, other, v % 12, n % 6));
        plan.add(x -> x.told(what));
    }
}
