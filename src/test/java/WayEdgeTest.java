/** Boundary cases of promises 30 to 33: days and ways. */
public final class WayEdgeTest {
    private static final Due due = new Due();
    private static final Edge fresh = new Edge(due, Edge::fresh);
    private static final Edge some = new Edge(due, Edge::some);
    private static final Edge full = new Edge(due, Edge::full);

    public static void main(String[] args) {
        go();
        goToTheLastDay();
        fuel();
        cheapestBeyond();
        cheapestNoWay();
        cheapestCells();
        gainBeyond();
        gainNone();
        due.end();
    }

    private static void go() {
        fresh.range("30: BEYOND: n 1 .. 200", 1, 200, (x, v) -> x.go(v));
        some.range("30: BEYOND: n 1 .. 200, on DAY 13", 1, 200, (x, v) -> x.go(v));
        fresh.answers("30: the DAY", 1, x -> x.go(1));
        some.answers("30: the DAY, by the most", 213, x -> x.go(200));
    }

    private static Edge onDay(int day) {
        return new Edge(due, () -> {
            SkyFees x = Edge.some();
            while (x.told(7) < day) {
                x.go(Math.min(200, day - x.told(7)));
            }
            return x;
        });
    }

    private static void goToTheLastDay() {
        Edge near = onDay(2900);
        near.answers("30: the DAY may be 3000", 3000, x -> x.go(100));
        near.refused("30: BEYOND: the DAY would be 3001", Due.BEYOND, x -> x.go(101));
        near.refused("30: BEYOND: the DAY would be 3100", Due.BEYOND, x -> x.go(200));
        Edge last = onDay(3000);
        last.refused("30: BEYOND: no day is left", Due.BEYOND, x -> x.go(1));
        last.refused("30: BEYOND: none of 200", Due.BEYOND, x -> x.go(200));
        last.answers("30: 3000 days ended", 3000, x -> x.told(7));
        last.answers("30: FILED on the last DAY", 3000, x -> x.flightIs(x.file(0, 0), 1));
        last.answers("30: FLOWN on the last DAY", 2, x -> {
            x.fly(1, 0);
            return x.row(1, 3000, 2);
        });
        last.refused("30: nothing was KNOWN of it a day ahead", Due.NONE, x -> x.row(1, 2999, 2));
    }

    private static void fuel() {
        some.range("31: BEYOND: FUEL 0 .. 999", 0, 999, (x, v) -> x.fuel(v));
        fresh.answers("31: what it was at first", 10, x -> x.fuel(0));
        some.answers("31: what it was", 33, x -> x.fuel(999));
    }

    private static void cheapestBeyond() {
        some.range("32: BEYOND: no such PLANE", 0, 2, (x, v) -> x.cheapest(v, 0, 1, -1));
        some.range("32: BEYOND: no such CELL from", 0, 63, (x, v) -> x.cheapest(0, v, 1, -1));
        some.range("32: BEYOND: no such CELL to", 0, 63, (x, v) -> x.cheapest(0, 1, v, -1));
        some.from("32: BEYOND: what is below -2", -2, (x, v) -> x.cheapest(0, 0, 1, v));
        full.range("32: BEYOND: 12 PLANES", 0, 11, (x, v) -> x.cheapest(v, 0, 1, -1));
        fresh.refused("32: BEYOND: there is no PLANE", Due.BEYOND, x -> x.cheapest(0, 0, 1, -1));
        some.refused("32: BEYOND of what ahead of NONE", Due.BEYOND, x -> x.cheapest(0, 20, 20, -3));
        some.refused("32: BEYOND of the CELL ahead of NONE", Due.BEYOND, x -> x.cheapest(0, 20, 64, 0));
    }

    private static void cheapestNoWay() {
        some.refused("32: NONE: it begins SHUT", Due.NONE, x -> x.cheapest(0, 20, 21, -1));
        some.refused("32: NONE: it ends SHUT", Due.NONE, x -> x.cheapest(0, 21, 20, -2));
        some.refused("32: NONE: from a SHUT CELL to itself", Due.NONE, x -> x.cheapest(0, 20, 20, 0));
        Edge walled = new Edge(due, () -> {
            SkyFees x = Edge.some();
            x.shut(1, true);
            x.shut(8, true);
            return x;
        });
        walled.refused("32: NONE: no way out of a corner", Due.NONE, x -> x.cheapest(0, 0, 63, -1));
        walled.refused("32: NONE: no way into a corner", Due.NONE, x -> x.cheapest(0, 63, 0, 0));
        walled.answers("32: within a corner", 0, x -> x.cheapest(0, 0, 0, -1));
        walled.answers("32: outside of it", 7, x -> x.cheapest(0, 24, 31, -2));
    }

    private static void cheapestCells() {
        some.answers("32: 0: where it begins", 63, x -> x.cheapest(0, 63, 61, 0));
        some.answers("32: the last CELL", 61, x -> x.cheapest(0, 63, 61, 2));
        some.refused("32: NONE: it has not so many CELLS", Due.NONE, x -> x.cheapest(0, 63, 61, 3));
        some.refused("32: NONE: the greatest int", Due.NONE, x -> x.cheapest(0, 63, 61, Integer.MAX_VALUE));
        some.answers("32: no step: its cost", 0, x -> x.cheapest(0, 5, 5, -1));
        some.answers("32: no step: how many", 0, x -> x.cheapest(0, 5, 5, -2));
        some.answers("32: no step: where it begins", 5, x -> x.cheapest(0, 5, 5, 0));
        some.refused("32: NONE: no step, no second CELL", Due.NONE, x -> x.cheapest(0, 5, 5, 1));
        some.refused("32: NONE: number 64", Due.NONE, x -> x.cheapest(0, 0, 63, 64));
        some.answers("32: corner to corner", 14, x -> x.cheapest(0, 0, 63, -2));
    }

    private static void gainBeyond() {
        some.range("33: BEYOND: no such PLANE", 0, 2, (x, v) -> x.gain(v, 0, 1, 1));
        some.range("33: BEYOND: no such CELL from", 0, 63, (x, v) -> x.gain(0, v, 1, 1));
        some.range("33: BEYOND: no such CELL to", 0, 63, (x, v) -> x.gain(0, 1, v, 1));
        some.range("33: BEYOND: LANDS 0 .. 7, no -1 here", 0, 7, (x, v) -> x.gain(0, 0, 1, v));
        fresh.refused("33: BEYOND: there is no PLANE", Due.BEYOND, x -> x.gain(0, 0, 1, 1));
        some.refused("33: BEYOND of the LAND ahead of NONE", Due.BEYOND, x -> x.gain(0, 20, 20, 8));
    }

    private static void gainNone() {
        some.refused("33: NONE: it begins SHUT", Due.NONE, x -> x.gain(0, 20, 21, 1));
        some.refused("33: NONE: it ends SHUT", Due.NONE, x -> x.gain(0, 21, 20, 1));
        some.refused("33: NONE: there is no way", Due.NONE, x -> x.gain(0, 20, 20, 0));
        some.answers("33: no step, no GAIN", 0, x -> x.gain(0, 3, 3, 1));
        // 5 * 100 * 250 / 10000 = 12 for land 2, and 5 for land 1
        some.answers("33: one step over the border, LAND 1", 5, x -> x.gain(0, 3, 4, 1));
        some.answers("33: one step over the border, LAND 2", 12, x -> x.gain(0, 3, 4, 2));
        some.answers("33: of a LAND that has no CELL", 0, x -> x.gain(0, 3, 4, 0));
    }
}
