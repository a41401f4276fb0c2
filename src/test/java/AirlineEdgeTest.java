/** Boundary cases of promises 8 to 16: airlines and planes. */
public final class AirlineEdgeTest {
    private static final Due due = new Due();
    private static final Edge fresh = new Edge(due, Edge::fresh);
    private static final Edge some = new Edge(due, Edge::some);
    private static final Edge full = new Edge(due, Edge::full);

    public static void main(String[] args) {
        airline();
        airlineFull();
        planeBeyond();
        planeState();
        planeFull();
        asBeyond();
        asKind();
        planeIs();
        earnBeyond();
        earnState();
        earnFull();
        coin();
        owes();
        payBeyond();
        payState();
        payNone();
        end();
        endState();
        due.end();
    }

    private static void airline() {
        fresh.range("8: BEYOND: COIN 0 .. 999999", 0, 999999, (x, v) -> x.airline(v));
        some.range("8: BEYOND: COIN 0 .. 999999, with others", 0, 999999, (x, v) -> x.airline(v));
        fresh.answers("8: its number, the first", 0, x -> x.airline(0));
        some.answers("8: its number, with one that has ENDED", 3, x -> x.airline(999999));
    }

    private static void airlineFull() {
        SkyFees x = new SkyFees();
        for (int i = 0; i < 8; i++) {
            due.is("8: at most 8, " + i, x.airline(i), i);
        }
        due.is("8: FULL: a ninth", x.airline(0), Due.FULL);
        full.refused("8: FULL, also if one has ENDED", Due.FULL, y -> y.airline(0));
        full.refused("8: BEYOND ahead of FULL", Due.BEYOND, y -> y.airline(1000000));
        full.refused("8: BEYOND ahead of FULL, below 0", Due.BEYOND, y -> y.airline(-1));
    }

    private static void planeBeyond() {
        some.range("9: BEYOND: KIND 0 .. 5", 0, 5, (x, v) -> x.plane(v, 0, 50));
        some.range("9: BEYOND: no such AIRLINE", 0, 2, (x, v) -> x.plane(0, v, 50));
        some.range("9: BEYOND: WEIGHT 1 .. 600", 1, 600, (x, v) -> x.plane(0, 0, v));
        fresh.refused("9: BEYOND: there is no AIRLINE", Due.BEYOND, x -> x.plane(0, 0, 50));
        some.answers("9: its number", 3, x -> x.plane(5, 1, 600));
    }

    private static void planeState() {
        some.refused("9: STATE: that has ENDED", Due.STATE, x -> x.plane(0, 2, 50));
        some.refused("9: BEYOND of KIND ahead of STATE", Due.BEYOND, x -> x.plane(6, 2, 50));
        some.refused("9: BEYOND of WEIGHT ahead of STATE", Due.BEYOND, x -> x.plane(0, 2, 601));
    }

    private static void planeFull() {
        SkyFees x = new SkyFees();
        x.airline(0);
        for (int i = 0; i < 12; i++) {
            due.is("9: at most 12, " + i, x.plane(0, 0, 1), i);
        }
        due.is("9: FULL: a thirteenth", x.plane(0, 0, 1), Due.FULL);
        full.refused("9: FULL", Due.FULL, y -> y.plane(0, 0, 50));
        full.refused("9: STATE ahead of FULL", Due.STATE, y -> y.plane(0, 7, 50));
        full.refused("9: BEYOND of KIND ahead of FULL", Due.BEYOND, y -> y.plane(-1, 0, 50));
        full.refused("9: BEYOND of the AIRLINE ahead of FULL", Due.BEYOND, y -> y.plane(0, 8, 50));
        full.refused("9: BEYOND of WEIGHT ahead of STATE and FULL", Due.BEYOND, y -> y.plane(0, 7, 0));
    }

    private static void asBeyond() {
        some.range("10: BEYOND: no such PLANE", 0, 2, (x, v) -> x.as(v, 0));
        some.range("10: BEYOND: KINDS 0 .. 5", 0, 5, (x, v) -> x.as(1, v));
        fresh.refused("10: BEYOND: there is no PLANE", Due.BEYOND, x -> x.as(0, 0));
        some.refused("10: BEYOND of the PLANE, of a KIND that none is", Due.BEYOND, x -> x.as(3, 1));
    }

    /** Each kind is one of those that are named here for it. */
    private static void asKind() {
        Edge all = new Edge(due, () -> {
            SkyFees x = new SkyFees();
            x.airline(0);
            for (int k = 0; k < 6; k++) {
                x.plane(k, 0, 101 + k);
            }
            return x;
        });
        String[] kinds = {"0", "10", "210", "30", "40", "530"};
        for (int p = 0; p < 6; p++) {
            for (int k = 0; k < 6; k++) {
                int plane = p;
                int kind = k;
                String name = "10: one of KIND " + p + " as one of KIND " + k;
                if (kinds[p].indexOf('0' + k) >= 0) {
                    all.answers(name, 101 + p, x -> x.as(plane, kind));
                } else {
                    all.refused(name, Due.KIND, x -> x.as(plane, kind));
                }
            }
        }
    }

    private static void planeIs() {
        some.range("11: BEYOND: no such PLANE", 0, 2, (x, v) -> x.planeIs(v, 0));
        some.range("11: BEYOND: what 0 .. 3", 0, 3, (x, v) -> x.planeIs(0, v));
        fresh.refused("11: BEYOND: there is no PLANE", Due.BEYOND, x -> x.planeIs(0, 3));
        some.answers("11: of an AIRLINE that has ENDED", 2, x -> x.planeIs(2, 1));
    }

    private static void earnBeyond() {
        some.range("12: BEYOND: no such AIRLINE", 0, 2, (x, v) -> x.earn(v, 1));
        some.range("12: BEYOND: n 1 .. 99999", 1, 99999, (x, v) -> x.earn(0, v));
        fresh.refused("12: BEYOND: there is no AIRLINE", Due.BEYOND, x -> x.earn(0, 1));
        some.answers("12: how much", 6, x -> x.earn(1, 1));
        some.answers("12: how much, by the most", 5 + 99999, x -> x.earn(1, 99999));
    }

    private static void earnState() {
        some.refused("12: STATE: it has ENDED", Due.STATE, x -> x.earn(2, 1));
        some.refused("12: BEYOND of n ahead of STATE", Due.BEYOND, x -> x.earn(2, 0));
        full.refused("12: STATE ahead of FULL", Due.STATE, x -> x.earn(7, 1));
    }

    private static void earnFull() {
        full.refused("12: FULL: above 999999 by 1", Due.FULL, x -> x.earn(0, 1));
        full.refused("12: FULL: above 999999 by much", Due.FULL, x -> x.earn(0, 99999));
        full.refused("12: BEYOND of n ahead of FULL", Due.BEYOND, x -> x.earn(0, 100000));
        Edge near = new Edge(due, () -> {
            SkyFees x = new SkyFees();
            x.airline(999990);
            return x;
        });
        near.answers("12: 999999 is not above", 999999, x -> x.earn(0, 9));
        near.refused("12: FULL: 1000000 is", Due.FULL, x -> x.earn(0, 10));
    }

    private static void coin() {
        some.range("13: BEYOND: no such AIRLINE", 0, 2, (x, v) -> x.coin(v));
        fresh.refused("13: BEYOND: there is no AIRLINE", Due.BEYOND, x -> x.coin(0));
        full.range("13: BEYOND: 8 AIRLINES", 0, 7, (x, v) -> x.coin(v));
        full.answers("13: the most COIN", 999999, x -> x.coin(0));
        full.answers("13: of one that has ENDED and owed nothing, COIN stays", 999999, x -> x.coin(7));
    }

    private static void owes() {
        some.range("14: BEYOND: no such AIRLINE", 0, 2, (x, v) -> x.owes(v, 1));
        some.range("14: BEYOND: LANDS 0 .. 7, -1: all", -1, 7, (x, v) -> x.owes(0, v));
        fresh.refused("14: BEYOND: there is no AIRLINE", Due.BEYOND, x -> x.owes(0, -1));
        some.answers("14: it owes nothing then", 0, x -> x.owes(2, -1));
        // FEES of 15 for flight 0, and of 15 for flight 6 as flown, less 4 that were paid
        some.answers("14: LAND 1", 26, x -> x.owes(0, 1));
        some.answers("14: LAND 2", 15, x -> x.owes(0, 2));
        some.answers("14: all", 41, x -> x.owes(0, -1));
    }

    private static void payBeyond() {
        some.range("15: BEYOND: no such AIRLINE", 0, 2, (x, v) -> x.pay(v, 1, 1));
        some.range("15: BEYOND: LANDS 0 .. 7, no -1 here", 0, 7, (x, v) -> x.pay(0, v, 1));
        some.range("15: BEYOND: n 1 .. 99999", 1, 99999, (x, v) -> x.pay(0, 1, v));
        fresh.refused("15: BEYOND: there is no AIRLINE", Due.BEYOND, x -> x.pay(0, 0, 1));
        some.refused("15: BEYOND of n ahead of STATE", Due.BEYOND, x -> x.pay(2, 1, 0));
    }

    private static void payState() {
        some.refused("15: STATE: it owes less by 1", Due.STATE, x -> x.pay(0, 1, 27));
        some.refused("15: STATE: it owes that LAND nothing", Due.STATE, x -> x.pay(0, 3, 1));
        some.refused("15: STATE: it has ENDED, and owes nothing", Due.STATE, x -> x.pay(2, 2, 1));
        some.answers("15: all that it owes", 0, x -> x.pay(0, 1, 26));
        some.answers("15: all but 1", 1, x -> x.pay(0, 1, 25));
        some.refused("15: STATE ahead of NONE", Due.STATE, x -> x.pay(0, 1, 57));
    }

    private static void payNone() {
        Edge poor = new Edge(due, () -> {
            SkyFees x = Due.twoLands(14);
            x.bill(Due.file(x, 0, 2, 3, 4, 5));
            return x;
        });
        poor.refused("15: NONE: it has less COIN by 1", Due.NONE, x -> x.pay(0, 1, 15));
        poor.answers("15: all COIN that it has", 1, x -> x.pay(0, 1, 14));
        poor.refused("15: STATE: it owes less, ahead of NONE", Due.STATE, x -> x.pay(0, 1, 16));
        Edge none = new Edge(due, () -> {
            SkyFees x = Due.twoLands(0);
            x.bill(Due.file(x, 0, 2, 3, 4, 5));
            return x;
        });
        none.refused("15: NONE: it has no COIN", Due.NONE, x -> x.pay(0, 2, 1));
    }

    private static void end() {
        some.range("16: BEYOND: no such AIRLINE", 0, 2, (x, v) -> x.end(v));
        fresh.refused("16: BEYOND: there is no AIRLINE", Due.BEYOND, x -> x.end(0));
        some.answers("16: nothing is LOST, it owes nothing", 0, x -> x.end(1));
        some.answers("16: nothing is LOST, there is enough", 0, x -> x.end(0));
    }

    private static void endState() {
        some.refused("16: STATE: it has", Due.STATE, x -> x.end(2));
        full.refused("16: STATE: it has, the last one", Due.STATE, x -> x.end(7));
        SkyFees x = Edge.some();
        x.end(0);
        due.is("16: STATE: a second time", x.end(0), Due.STATE);
        due.is("16: its COIN is not PARTED anew", x.coin(0), 56 - 41);
    }
}
