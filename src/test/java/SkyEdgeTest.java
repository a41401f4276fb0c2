import java.util.Arrays;

/** Boundary cases of promises 1 to 7: the sky. */
public final class SkyEdgeTest {
    private static final Due due = new Due();
    private static final Edge fresh = new Edge(due, Edge::fresh);
    private static final Edge some = new Edge(due, Edge::some);

    public static void main(String[] args) {
        aNewObject();
        cell();
        blockBeyond();
        blockNone();
        blockState();
        blockKind();
        shut();
        land();
        landIs();
        restIsNoFinding();
        rate();
        due.end();
    }

    private static void aNewObject() {
        SkyFees x = new SkyFees();
        for (int c = 0; c < 64; c++) {
            due.is("1: CELLS of no LAND, " + c, x.cell(c, -1), -1);
        }
        fresh.answers("1: DAY 0", 0, y -> y.told(7));
        for (int k = 1; k <= 5; k++) {
            int which = k;
            fresh.answers("1: nothing found, " + k, 0, y -> y.found(which));
        }
    }

    private static void cell() {
        some.range("2: BEYOND: CELLS 0 .. 63", 0, 63, (x, v) -> x.cell(v, 0));
        some.range("2: BEYOND: LANDS 0 .. 7, -1: none", -1, 7, (x, v) -> x.cell(0, v));
        some.refused("2: BEYOND of both", Due.BEYOND, x -> x.cell(64, 8));
        fresh.answers("2: of which it was (-1)", -1, x -> x.cell(0, 0));
        some.answers("2: of which it was, the last of a LAND", 1, x -> x.cell(3, -1));
        some.answers("2: of which it was, the first of the next", 2, x -> x.cell(4, 4));
    }

    private static void blockBeyond() {
        some.range("3: BEYOND: no such SHEET", 0, 3, (x, v) -> x.block(v, 0));
        some.range("3: BEYOND: no such CELL", 0, 63, (x, v) -> x.block(0, v));
        some.refused("3: BEYOND of the CELL ahead of NONE", Due.BEYOND, x -> x.block(2, 64));
        some.refused("3: BEYOND of the SHEET alone", Due.BEYOND, x -> x.block(4, 63));
    }

    private static void blockNone() {
        some.refused("3: NONE: it is missing", Due.NONE, x -> x.block(2, 0));
        fresh.refused("3: NONE: at first all are missing", Due.NONE, x -> x.block(0, 63));
    }

    private static void blockState() {
        some.answers("3: just so many CELLS", 3, x -> x.block(0, 61));
        some.refused("3: STATE: one CELL too few", Due.STATE, x -> x.block(0, 62));
        some.refused("3: STATE: two CELLS too few", Due.STATE, x -> x.block(0, 63));
        some.refused("3: STATE ahead of KIND", Due.STATE, x -> x.block(1, 62));
        Edge rows = new Edge(due, () -> {
            SkyFees x = Edge.some();
            x.sheet(0, 32, 24);
            x.sheet(1, 8, 0);
            x.sheet(3, 16, 1);
            return x;
        });
        rows.answers("3: 24 numbers to the last CELL", 24, x -> x.block(0, 40));
        rows.refused("3: STATE: 24 numbers, one CELL too few", Due.STATE, x -> x.block(0, 41));
        rows.answers("3: no numbers at the last CELL", 0, x -> x.block(1, 63));
        rows.answers("3: one number at the last CELL", 1, x -> x.block(3, 63));
    }

    private static Edge withSheet(int bits, int... numbers) {
        return new Edge(due, () -> {
            SkyFees x = Edge.some();
            Due.write(x, 0, bits, numbers);
            return x;
        });
    }

    private static void blockKind() {
        for (int bits = 8; bits <= 32; bits *= 2) {
            String of = " of " + bits + " bits";
            withSheet(bits, 8, 0, 0).refused("3: KIND: a number 8, the first" + of, Due.KIND, x -> x.block(0, 0));
            withSheet(bits, 0, 5, -2).refused("3: KIND: a number -2, the last" + of, Due.KIND, x -> x.block(0, 61));
            withSheet(bits, -1, 7, 0).answers("3: -1 .. 7" + of, 3, x -> x.block(0, 0));
        }
        withSheet(8, 263).answers("3: a number whose lowest bits are 7", 1, x -> x.block(0, 0));
        withSheet(16, 263).refused("3: KIND: more than the lowest 8 bits", Due.KIND, x -> x.block(0, 0));
        SkyFees x = Edge.some();
        Due.write(x, 0, 8, 7, -1, 0);
        x.block(0, 61);
        int[] want = {-1, 7, -1, 0};
        for (int i = 0; i < 4; i++) {
            due.is("3: CELL " + (60 + i) + " after that", x.cell(60 + i, 5), want[i]);
        }
    }

    private static void shut() {
        some.range("4: BEYOND: CELLS 0 .. 63", 0, 63, (x, v) -> x.shut(v, true));
        some.range("4: BEYOND, too, if not SHUT", 0, 63, (x, v) -> x.shut(v, false));
        some.answers("4: 1 if it was otherwise", 1, x -> x.shut(20, false));
        some.answers("4: else 0", 0, x -> x.shut(20, true));
        some.answers("4: 1 if it was not SHUT", 1, x -> x.shut(21, true));
        some.answers("4: 0 if it was not, and is not", 0, x -> x.shut(21, false));
    }

    private static void land() {
        some.range("5: BEYOND: LANDS 0 .. 7, no -1 here", 0, 7, (x, v) -> x.land(v, 0, 1));
        some.range("5: BEYOND: COST 0 .. 9999", 0, 9999, (x, v) -> x.land(1, v, 1));
        some.range("5: BEYOND: FORETOLD 1 .. 9999", 1, 9999, (x, v) -> x.land(1, 0, v));
        some.answers("5: what COST was", 700, x -> x.land(1, 0, 1));
        some.answers("5: what COST was at first", 0, x -> x.land(7, 9999, 9999));
    }

    private static void landIs() {
        some.range("6: BEYOND: LANDS 0 .. 7", 0, 7, (x, v) -> x.landIs(v, 0));
        some.range("6: BEYOND: what 0 .. 7", 0, 7, (x, v) -> x.landIs(1, v));
        int[] first = {0, 1000, 100, 0, 0, 0, 0, 0};
        for (int what = 0; what < 8; what++) {
            int w = what;
            fresh.answers("6: at first " + what, first[what], x -> x.landIs(7, w));
        }
        fresh.answers("6: 5 CELLS, all of them", 64, x -> {
            int[] all = new int[16];
            Arrays.fill(all, 6);
            Due.write(x, 0, 8, all);
            for (int from = 0; from < 64; from += 16) {
                x.block(0, from);
            }
            return x.landIs(6, 5);
        });
    }

    /** A REST of just LOW - 1 .. LOW - 5 is a number, like those around it. */
    private static void restIsNoFinding() {
        for (int k = 0; k <= 6; k++) {
            SkyFees x = Due.twoLands(0);
            Due.law(x, 2, 0, "9999");
            x.rate(1, 9999);
            // 100 miles are 9999 units, 10 miles 999
            due.is("6: FEES of 100 miles", x.bill(Due.file(x, 0, 0, 1, 2, 3, 2, 1, 0, 1, 2, 3, 2)), 999800);
            x.rate(1, 30);
            due.is("6: FEES of 10 miles", x.bill(Due.file(x, 0, 0, 1)), 299);
            x.land(1, 99 - k, 1);
            x.go(100);
            due.is("6: 4 the REST, any number", x.landIs(1, 4), Due.LOW - k);
            due.is("6: 4 no finding", Arrays.stream(View.found(x)).sum(), 0);
        }
    }

    private static void rate() {
        some.range("7: BEYOND: LANDS 0 .. 7", 0, 7, (x, v) -> x.rate(v, 5));
        some.range("7: BEYOND: RATE 0 .. 9999", 0, 9999, (x, v) -> x.rate(2, v));
        some.answers("7: what it was", 250, x -> x.rate(2, 0));
        fresh.answers("7: what it was at first", 100, x -> x.rate(0, 9999));
    }
}
