/** Boundary cases of promises 21 to 29: flights. */
public final class FlightEdgeTest {
    private static final int[] TWELVE = {0, 1, 2, 3, 4, 5, 6, 7, 15, 14, 13, 12};
    private static final int[] THIRTEEN = {0, 1, 2, 3, 4, 5, 6, 7, 15, 14, 13, 12, 11};
    private static final int[] ELEVEN_GAPS = {0, -1, -1, -1, -1, -1, -1, -1, -1, -1, -1, -1, 0};
    private static final Due due = new Due();
    private static final Edge fresh = new Edge(due, Edge::fresh);
    private static final Edge some = new Edge(due, Edge::some);
    private static final Edge full = new Edge(due, Edge::full);

    public static void main(String[] args) {
        fileBeyond();
        fileNone();
        fileState();
        fileKind();
        fileFull();
        rowsStayAsTheyWereTold();
        flyBeyond();
        flyNone();
        flyKind();
        flyFull();
        flightIs();
        rowBeyond();
        rowNone();
        milesBeyond();
        milesNone();
        bill();
        billOfWhatWasNotFlown();
        right();
        rightOfWhatWasNotFlown();
        rightIsNoFinding();
        fee();
        beside();
        due.end();
    }

    private static Edge withSheet(int bits, int... numbers) {
        return new Edge(due, () -> {
            SkyFees x = Edge.some();
            Due.write(x, 0, bits, numbers);
            return x;
        });
    }

    private static void fileBeyond() {
        some.range("21: BEYOND: no such PLANE", 0, 2, (x, v) -> x.file(v, 0));
        some.range("21: BEYOND: no such SHEET", 0, 3, (x, v) -> x.file(0, v));
        full.range("21: BEYOND: 12 PLANES, ahead of FULL", 0, 11, (x, v) -> x.file(v, 0));
        fresh.refused("21: BEYOND: there is no PLANE, ahead of NONE", Due.BEYOND, x -> x.file(0, 0));
        some.refused("21: BEYOND of the PLANE ahead of NONE", Due.BEYOND, x -> x.file(3, 2));
        some.refused("21: BEYOND of the SHEET ahead of STATE", Due.BEYOND, x -> x.file(2, 4));
        some.answers("21: its number", 7, x -> x.file(0, 0));
    }

    private static void fileNone() {
        some.refused("21: NONE: it is missing", Due.NONE, x -> x.file(0, 2));
        some.refused("21: NONE ahead of STATE", Due.NONE, x -> x.file(2, 2));
        full.refused("21: NONE ahead of FULL", Due.NONE, x -> x.file(0, 3));
    }

    private static void fileState() {
        some.refused("21: STATE: the AIRLINE has ENDED", Due.STATE, x -> x.file(2, 0));
        some.refused("21: STATE ahead of KIND", Due.STATE, x -> x.file(2, 1));
        full.refused("21: STATE ahead of FULL", Due.STATE, x -> x.file(11, 0));
    }

    private static void noRow(String what, int... numbers) {
        withSheet(8, numbers).refused("21: KIND: " + what, Due.KIND, x -> x.file(0, 0));
    }

    private static void fileKind() {
        noRow("no numbers");
        noRow("one number", 5);
        noRow("13 numbers", THIRTEEN);
        noRow("24 numbers", new int[24]);
        noRow("a gap", 0, -1, 2);
        noRow("a gap at first", -1, 0);
        noRow("a gap at last", 0, -1);
        noRow("no CELL: 64", 56, 64);
        noRow("no CELL: -2", 0, -2);
        noRow("not NEXT: the same CELL", 9, 9);
        noRow("not NEXT: a corner in common", 9, 18);
        noRow("not NEXT: the other corner", 9, 16);
        noRow("not NEXT: two on", 8, 10);
        noRow("not NEXT: two rows on", 8, 24);
        noRow("not NEXT: the end of a row and the next row's beginning", 7, 8);
        noRow("not NEXT: and back", 8, 7);
        noRow("not NEXT: the last two", 0, 1, 2, 12);
        withSheet(16, 56, 312).refused("21: KIND: 312 in 16 bits", Due.KIND, x -> x.file(0, 0));
        withSheet(8, 1, 256).answers("21: 256 in 8 bits is 0", 7, x -> x.file(0, 0));
        withSheet(32, 62, 63).answers("21: two numbers", 7, x -> x.file(0, 0));
        withSheet(16, TWELVE).answers("21: 12 numbers", 7, x -> x.file(0, 0));
        withSheet(8, 20, 21).answers("21: a SHUT CELL is one, too", 7, x -> x.file(0, 0));
    }

    private static void fileFull() {
        SkyFees x = Due.twoLands(0);
        Due.write(x, 0, 8, 0, 1);
        for (int i = 0; i < 30; i++) {
            due.is("21: at most 30, " + i, x.file(0, 0), i);
        }
        due.is("21: FULL: one more", x.file(0, 0), Due.FULL);
        full.refused("21: FULL", Due.FULL, y -> y.file(0, 0));
        full.refused("21: KIND ahead of FULL", Due.KIND, y -> y.file(0, 1));
    }

    private static void rowsStayAsTheyWereTold() {
        SkyFees x = Due.twoLands(0);
        Due.write(x, 0, 8, 0, 1, 2);
        x.file(0, 0);
        x.fly(0, 0);
        x.put(0, 1, 8);
        due.is("21: the numbers of then", x.row(0, -1, 1), 1);
        due.is("22: the numbers of then", x.row(0, 0, 1), 1);
        x.sheet(0, 0, 0);
        due.is("21: also when the SHEET is missing", x.row(0, -1, 2), 2);
        due.is("22: also when the SHEET is missing", x.row(0, 0, 2), 2);
        x.shut(1, true);
        due.is("25: also when a CELL is SHUT", x.miles(0, 1, 0, 0), 20);
    }

    private static void flyBeyond() {
        some.range("22: BEYOND: no such FLIGHT", 0, 6, (x, v) -> x.fly(v, 0));
        some.range("22: BEYOND: no such SHEET", 0, 3, (x, v) -> x.fly(0, v));
        full.range("22: BEYOND: 30 FLIGHTS, ahead of FULL", 0, 29, (x, v) -> x.fly(v, 0));
        fresh.refused("22: BEYOND: there is no FLIGHT, ahead of NONE", Due.BEYOND, x -> x.fly(0, 0));
        some.refused("22: BEYOND of the FLIGHT ahead of NONE", Due.BEYOND, x -> x.fly(7, 2));
        some.answers("22: how many ROWS, the first of this FLIGHT", 1, x -> x.fly(1, 0));
        some.answers("22: how many ROWS, the third of this FLIGHT", 3, x -> x.fly(0, 0));
        some.answers("22: of one whose AIRLINE has ENDED", 1, x -> x.fly(4, 0));
    }

    private static void flyNone() {
        some.refused("22: NONE: it is missing", Due.NONE, x -> x.fly(0, 2));
        full.refused("22: NONE ahead of FULL", Due.NONE, x -> x.fly(0, 2));
    }

    private static void notFlown(String what, int... numbers) {
        withSheet(8, numbers).refused("22: KIND: " + what, Due.KIND, x -> x.fly(0, 0));
    }

    private static void flown(String what, int... numbers) {
        withSheet(8, numbers).answers("22: " + what, 3, x -> x.fly(0, 0));
    }

    private static void flyKind() {
        notFlown("no numbers");
        notFlown("one number", 5);
        notFlown("13 numbers", THIRTEEN);
        notFlown("13 numbers, 11 of them gaps", ELEVEN_GAPS);
        notFlown("24 numbers", new int[24]);
        notFlown("the first is a gap", -1, 0, 1);
        notFlown("the last is a gap", 1, 0, -1);
        notFlown("gaps alone", -1, -1);
        notFlown("-2 is no gap", 0, -2, 2);
        notFlown("64 is no CELL", 55, 64, 56);
        notFlown("not NEXT without a gap", 0, 2);
        notFlown("too far for one gap", 0, -1, 3);
        notFlown("too near by one: the steps are odd", 0, -1, 1);
        notFlown("too near by one: the same CELL", 0, -1, -1, 0);
        notFlown("too far for ten gaps", 0, -1, -1, -1, -1, -1, -1, -1, -1, -1, -1, 62);
        notFlown("the end of a row and the next row's second", 7, -1, 9);
        notFlown("one of two gaps is too small", 0, -1, 2, -1, 5);
        flown("two numbers", 8, 0);
        flown("12 numbers", TWELVE);
        flown("one gap, straight", 0, -1, 2);
        flown("one gap, there and back", 63, -1, 63);
        flown("one gap, round a corner", 0, -1, 9);
        flown("ten gaps, just far enough", 0, -1, -1, -1, -1, -1, -1, -1, -1, -1, -1, 39);
        flown("ten gaps to the CELL beside", 0, -1, -1, -1, -1, -1, -1, -1, -1, -1, -1, 8);
        flown("through a SHUT CELL", 19, 20, 21);
        withSheet(8, 0, 255, 2).answers("22: 255 in 8 bits is a gap", 3, x -> x.fly(0, 0));
        withSheet(16, 0, 255, 2).refused("22: KIND: 255 in 16 bits is none", Due.KIND, x -> x.fly(0, 0));
    }

    private static void flyFull() {
        SkyFees x = Due.twoLands(0);
        Due.file(x, 0, 0, 1);
        for (int i = 1; i <= 40; i++) {
            due.is("22: 40 ROWS at most, " + i, x.fly(0, 0), i);
        }
        due.is("22: FULL: one more", x.fly(0, 0), Due.FULL);
        full.refused("22: FULL: 40 were told of all, 2 of this", Due.FULL, y -> y.fly(0, 0));
        full.refused("22: FULL: 40 were told of all, 1 of this", Due.FULL, y -> y.fly(29, 0));
        full.refused("22: KIND ahead of FULL", Due.KIND, y -> y.fly(0, 1));
    }

    private static void flightIs() {
        some.range("23: BEYOND: no such FLIGHT", 0, 6, (x, v) -> x.flightIs(v, 0));
        some.range("23: BEYOND: what 0 .. 7", 0, 7, (x, v) -> x.flightIs(0, v));
        full.range("23: BEYOND: 30 FLIGHTS", 0, 29, (x, v) -> x.flightIs(v, 7));
        fresh.refused("23: BEYOND: there is no FLIGHT", Due.BEYOND, x -> x.flightIs(0, 0));
        some.answers("23: 4 not BILLED", 0, x -> x.flightIs(1, 4));
        some.answers("23: 5 the DAY of that (-1)", -1, x -> x.flightIs(1, 5));
        some.answers("23: 5 the DAY of that, DAY 0", 0, x -> x.flightIs(0, 5));
        some.answers("23: 6 not DOUBLED while it isn't BILLED", 0, x -> x.flightIs(1, 6));
        some.answers("23: 6 DOUBLED", 1, x -> {
            x.bill(1);
            return x.flightIs(1, 6);
        });
        some.answers("23: 7 no FEES while it isn't BILLED", 0, x -> x.flightIs(1, 7));
        withSheet(8, TWELVE).answers("23: 2 12 CELLS", 12, x -> x.flightIs(x.file(0, 0), 2));
    }

    private static void rowBeyond() {
        some.range("24: BEYOND: no such FLIGHT", 0, 6, (x, v) -> x.row(v, -1, 0));
        some.range("24: BEYOND: k isn't -1 .. 3000", -1, 3000, (x, v) -> x.row(0, v, 0));
        some.from("24: BEYOND: i is below 0", 0, (x, v) -> x.row(0, -1, v));
        fresh.refused("24: BEYOND: there is no FLIGHT", Due.BEYOND, x -> x.row(0, -1, 0));
        some.refused("24: BEYOND of i ahead of NONE", Due.BEYOND, x -> x.row(1, 3000, -1));
        some.refused("24: BEYOND of k ahead of NONE", Due.BEYOND, x -> x.row(1, 3001, 99));
        some.answers("24: a gap is -1, no finding", -1, x -> x.row(0, 0, 1));
    }

    private static void rowNone() {
        some.refused("24: NONE: there is no such ROW", Due.NONE, x -> x.row(1, 3000, 0));
        some.refused("24: NONE: none is KNOWN a day ahead", Due.NONE, x -> x.row(6, 12, 0));
        some.answers("24: KNOWN on its day", 3, x -> x.row(6, 13, 0));
        some.answers("24: the last number as FILED", 5, x -> x.row(0, -1, 3));
        some.refused("24: NONE: no such number as FILED", Due.NONE, x -> x.row(0, -1, 4));
        some.answers("24: the last number as FLOWN, of 3", 4, x -> x.row(0, 4, 2));
        some.refused("24: NONE: no such number as FLOWN, of 3", Due.NONE, x -> x.row(0, 4, 3));
        some.answers("24: the last number as FLOWN, of 4", 4, x -> x.row(0, 5, 3));
        some.refused("24: NONE: no such number as FLOWN, of 4", Due.NONE, x -> x.row(0, 5, 4));
        some.refused("24: NONE: the greatest int", Due.NONE, x -> x.row(0, -1, Integer.MAX_VALUE));
        Edge twelve = withSheet(8, TWELVE);
        twelve.answers("24: number 11 of 12", 12, x -> x.row(x.file(0, 0), -1, 11));
        Edge filed = new Edge(due, () -> {
            SkyFees x = Edge.some();
            Due.file(x, 0, TWELVE);
            return x;
        });
        filed.refused("24: NONE: number 12 of 12", Due.NONE, x -> x.row(7, -1, 12));
    }

    private static void milesBeyond() {
        some.range("25: BEYOND: no such FLIGHT", 0, 6, (x, v) -> x.miles(v, 1, -1, 0));
        some.range("25: BEYOND: LANDS 0 .. 7, no -1 here", 0, 7, (x, v) -> x.miles(0, v, -1, 0));
        some.range("25: BEYOND: k isn't -1 .. 3000", -1, 3000, (x, v) -> x.miles(0, 1, v, 0));
        some.range("25: BEYOND: what 0 .. 2", 0, 2, (x, v) -> x.miles(0, 1, -1, v));
        fresh.refused("25: BEYOND: there is no FLIGHT", Due.BEYOND, x -> x.miles(0, 1, -1, 0));
        some.refused("25: BEYOND of what ahead of NONE", Due.BEYOND, x -> x.miles(1, 1, 3000, 3));
        some.refused("25: BEYOND of the LAND ahead of NONE", Due.BEYOND, x -> x.miles(1, 8, 3000, 0));
    }

    private static void milesNone() {
        some.refused("25: NONE: there is no such ROW", Due.NONE, x -> x.miles(1, 1, 0, 0));
        some.refused("25: NONE: nor later", Due.NONE, x -> x.miles(1, 1, 3000, 2));
        some.refused("25: NONE: none is KNOWN a day ahead", Due.NONE, x -> x.miles(6, 1, 12, 1));
        some.answers("25: KNOWN on its day", 15, x -> x.miles(6, 1, 13, 1));
        some.answers("25: as FILED there is always one", 15, x -> x.miles(1, 1, -1, 2));
        // from 2 to 4 the gap is 3
        some.answers("25: KNOWN on day 4 is the first", 15, x -> x.miles(0, 1, 4, 0));
        some.answers("25: KNOWN on day 5 is the second", 25, x -> x.miles(0, 1, 5, 0));
    }

    private static void bill() {
        some.range("26: BEYOND: no such FLIGHT", 0, 6, (x, v) -> x.bill(v));
        full.range("26: BEYOND: 30 FLIGHTS", 0, 29, (x, v) -> x.bill(v));
        fresh.refused("26: BEYOND: there is no FLIGHT", Due.BEYOND, x -> x.bill(0));
        some.refused("26: STATE: it was", Due.STATE, x -> x.bill(0));
        some.refused("26: STATE: its AIRLINE has ENDED", Due.STATE, x -> x.bill(4));
        some.refused("26: STATE: it was, and its AIRLINE has ENDED", Due.STATE, x -> x.bill(3));
        some.refused("26: STATE: as FLOWN, and no ROW was told", Due.STATE, x -> x.bill(5));
        some.answers("26: DOUBLED: its FEES are 0", 0, x -> x.bill(1));
        some.answers("26: all its FEES", 6, x -> x.bill(2));
    }

    private static Edge withLaw(int use, String text) {
        return new Edge(due, () -> {
            SkyFees x = Edge.some();
            x.law(2, 3000);
            Due.law(x, use, 0, text);
            return x;
        });
    }

    /** Flight 5 meets land 1 alone, and must be flown for all lands. */
    private static void billOfWhatWasNotFlown() {
        withLaw(0, "l=1").refused("26: STATE: FREE in LAND 1, and not in others", Due.STATE, x -> x.bill(5));
        withLaw(0, "l<7").refused("26: STATE: not FREE in LAND 7 alone", Due.STATE, x -> x.bill(5));
        withLaw(0, "l>0").refused("26: STATE: not FREE in LAND 0 alone", Due.STATE, x -> x.bill(5));
        withLaw(0, "1").answers("26: FREE in all", 0, x -> x.bill(5));
        withLaw(1, "l=7").refused("26: STATE: as FLOWN in LAND 7 alone", Due.STATE, x -> x.bill(5));
        withLaw(1, "0-1").refused("26: STATE: not 0 is as FLOWN", Due.STATE, x -> x.bill(5));
        withLaw(1, "l>7").answers("26: as FILED in all", 20, x -> x.bill(5));
        withLaw(1, "d<13").answers("26: asked for the DAY on which it was FILED", 20, x -> x.bill(5));
        withLaw(1, "d=13").refused("26: STATE: by that DAY", Due.STATE, x -> x.bill(5));
        withLaw(1, "d=13").answers("26: not by that DAY", 0, x -> x.bill(1));
        some.answers("26: as FLOWN, told on the DAY", 5, x -> {
            Due.fly(x, 5, 1, 9);
            return x.bill(5);
        });
    }

    private static void right() {
        some.range("27: BEYOND: no such FLIGHT", 0, 6, (x, v) -> x.right(v));
        full.range("27: BEYOND: 30 FLIGHTS", 0, 29, (x, v) -> x.right(v));
        fresh.refused("27: BEYOND: there is no FLIGHT", Due.BEYOND, x -> x.right(0));
        some.refused("27: STATE: it wasn't BILLED", Due.STATE, x -> x.right(1));
        some.refused("27: STATE: its AIRLINE has ENDED", Due.STATE, x -> x.right(3));
        some.refused("27: STATE: it wasn't BILLED, and its AIRLINE has ENDED", Due.STATE, x -> x.right(4));
        some.refused("27: STATE: it wasn't BILLED, nor FLOWN", Due.STATE, x -> x.right(5));
        some.answers("27: nothing more", 0, x -> x.right(6));
    }

    private static void rightOfWhatWasNotFlown() {
        Edge billed = new Edge(due, () -> {
            SkyFees x = Edge.some();
            x.law(2, 3000);
            x.bill(2);
            Due.law(x, 1, 0, "1");
            return x;
        });
        billed.refused("27: STATE: as FLOWN now, and no ROW was told", Due.STATE, x -> x.right(2));
        billed.answers("27: as FLOWN now, FREE in all", -6, x -> {
            Due.law(x, 0, 0, "1");
            return x.right(2);
        });
        billed.answers("27: as FLOWN now, and a ROW was told", -6, x -> {
            Due.fly(x, 2, 40, 41);
            return x.right(2);
        });
        billed.answers("27: as FLOWN now, by the ROW told last", 25, x -> {
            x.right(0);
            return x.fee(0, 1);
        });
    }

    /** FEES that are less by 1000001 .. 1000005, and by numbers around them, are an answer and no finding. */
    private static void rightIsNoFinding() {
        for (int k = 0; k <= 6; k++) {
            SkyFees x = Due.twoLands(0);
            x.cell(8, 3);
            Due.law(x, 2, 0, "9999");
            setRates(x, 1000000 + k);
            int flight = Due.file(x, 0, 8, 0, 1, 2, 3, 2, 1, 0, 1, 2, 3, 11);
            due.is("27: 100 miles and 5", x.bill(flight), 1000000 + k);
            Due.law(x, 0, 0, "1");
            due.is("27: below 0: less, no finding", x.right(flight), Due.LOW - k);
            due.is("27: none is counted", x.found(1) + x.found(2) + x.found(3) + x.found(4) + x.found(5), 0);
        }
    }

    /** Rates by which 9999 units in land 1 and 499 in land 3 cost that together. */
    private static void setRates(SkyFees x, int cost) {
        for (int first = 9999; first > 9900; first--) {
            for (int third = 0; third <= 9999; third++) {
                if (9999 * first / 100 + 499 * third / 100 == cost) {
                    x.rate(1, first);
                    x.rate(3, third);
                    return;
                }
            }
        }
    }

    private static void fee() {
        some.range("28: BEYOND: no such FLIGHT", 0, 6, (x, v) -> x.fee(v, 1));
        some.range("28: BEYOND: LANDS 0 .. 7, no -1 here", 0, 7, (x, v) -> x.fee(0, v));
        fresh.refused("28: BEYOND: there is no FLIGHT", Due.BEYOND, x -> x.fee(0, 0));
        some.refused("28: NONE: it wasn't BILLED", Due.NONE, x -> x.fee(1, 1));
        some.refused("28: BEYOND of the LAND ahead of NONE", Due.BEYOND, x -> x.fee(1, 8));
        some.answers("28: of a LAND that it doesn't meet", 0, x -> x.fee(0, 7));
        some.answers("28: of one whose AIRLINE has ENDED", 10, x -> x.fee(3, 2));
    }

    private static void beside() {
        some.range("29: BEYOND: LANDS 0 .. 7, no -1 here", 0, 7, (x, v) -> x.beside(v, false));
        some.range("29: BEYOND: LANDS 0 .. 7, as FLOWN", 0, 7, (x, v) -> x.beside(v, true));
        fresh.answers("29: there is no FLIGHT", 0, x -> x.beside(0, false));
        // flights 0, 3 and 6 are billed; 3 has no row
        some.answers("29: as FILED", 15 + 10, x -> x.beside(2, false));
        some.answers("29: without a ROW nothing", 5, x -> x.beside(2, true));
        some.answers("29: DOUBLED ones 0", 15 + 20, x -> {
            x.bill(1);
            return x.beside(1, false);
        });
    }
}
