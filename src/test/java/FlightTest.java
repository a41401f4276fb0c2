/** Promises 21 to 29: flights as filed and as flown, miles, fees. */
public final class FlightTest {
    private static final Due due = new Due();

    public static void main(String[] args) {
        file();
        fileFull();
        fly();
        flyFull();
        flightIs();
        row();
        miles();
        bill();
        billOfLandZero();
        billState();
        doubled();
        right();
        rightGivesBack();
        fee();
        beside();
        due.end();
    }

    private static void file() {
        SkyFees x = Due.twoLands(0);
        due.is("21: plane 1", x.file(1, 0), Due.BEYOND);
        due.is("21: plane -1", x.file(-1, 0), Due.BEYOND);
        due.is("21: sheet 4", x.file(0, 4), Due.BEYOND);
        due.is("21: sheet -1", x.file(0, -1), Due.BEYOND);
        due.is("21: missing", x.file(0, 0), Due.NONE);
        due.is("21: two cells", Due.file(x, 0, 0, 8), 0);
        due.is("21: twelve", Due.file(x, 0, 0, 1, 2, 3, 4, 5, 6, 7, 15, 14, 13, 12), 1);
        due.is("21: there and back", Due.file(x, 0, 63, 62, 63), 2);
        due.is("21: none", Due.file(x, 0), Due.KIND);
        due.is("21: one cell", Due.file(x, 0, 0), Due.KIND);
        due.is("21: thirteen", Due.file(x, 0, 0, 1, 2, 3, 4, 5, 6, 7, 15, 14, 13, 12, 11), Due.KIND);
        due.is("21: over the rim", Due.file(x, 0, 7, 8), Due.KIND);
        due.is("21: over the rim back", Due.file(x, 0, 8, 7), Due.KIND);
        due.is("21: the same", Due.file(x, 0, 5, 5), Due.KIND);
        due.is("21: two on", Due.file(x, 0, 5, 7), Due.KIND);
        due.is("21: across a corner", Due.file(x, 0, 0, 9), Due.KIND);
        due.is("21: a gap", Due.file(x, 0, 0, -1, 2), Due.KIND);
        due.is("21: 64", Due.file(x, 0, 56, 64), Due.KIND);
        due.is("21: no cell at last", Due.file(x, 0, 0, -1), Due.KIND);
        x.shut(8, true);
        due.is("21: shut cells may be filed", Due.file(x, 0, 0, 8), 3);
        x.end(0);
        due.is("21: STATE ahead of KIND", Due.file(x, 0, 0), Due.STATE);
        x.sheet(0, 0, 0);
        due.is("21: NONE ahead of STATE", x.file(0, 0), Due.NONE);
        due.is("21: told", x.told(4), 4);
    }

    private static void fileFull() {
        SkyFees x = Due.twoLands(0);
        for (int i = 0; i < 29; i++) {
            due.is("21: flight " + i, Due.file(x, 0, 0, 1), i);
        }
        Due.fly(x, 0, 40, 41);
        due.is("21: the last, of twelve", Due.file(x, 0, 0, 1, 2, 3, 4, 5, 6, 7, 15, 14, 13, 12), 29);
        due.is("24: its last cell", x.row(29, -1, 11), 12);
        due.is("24: what was flown stays", x.row(0, 0, 0), 40);
        due.is("21: one more", x.file(0, 0), Due.FULL);
        due.is("21: KIND ahead of FULL", Due.file(x, 0, 0), Due.KIND);
        due.is("21: told when full", x.told(4), 30);
    }

    private static void fly() {
        SkyFees x = Due.twoLands(0);
        due.is("22: no flight", x.fly(0, 0), Due.BEYOND);
        Due.file(x, 0, 0, 1);
        Due.file(x, 0, 1, 2);
        due.is("22: flight -1", x.fly(-1, 0), Due.BEYOND);
        due.is("22: sheet 4", x.fly(0, 4), Due.BEYOND);
        due.is("22: sheet -1", x.fly(0, -1), Due.BEYOND);
        due.is("22: missing", x.fly(0, 3), Due.NONE);
        due.is("22: first", Due.fly(x, 0, 0, 1), 1);
        due.is("22: of another", Due.fly(x, 1, 50, -1, 52), 1);
        due.is("22: second", Due.fly(x, 0, 0, -1, 0), 2);
        due.is("22: ten gaps", Due.fly(x, 0, 0, -1, -1, -1, -1, -1, -1, -1, -1, -1, -1, 1), 3);
        due.is("22: ten gaps, too near by one", Due.fly(x, 0, 0, -1, -1, -1, -1, -1, -1, -1, -1, -1, -1, 0), Due.KIND);
        due.is("22: just far enough", Due.fly(x, 0, 0, -1, -1, 3), 4);
        due.is("22: too far", Due.fly(x, 0, 0, -1, -1, 5), Due.KIND);
        due.is("22: gap at first", Due.fly(x, 0, -1, 1, 2), Due.KIND);
        due.is("22: gap at last", Due.fly(x, 0, 0, 1, -1), Due.KIND);
        due.is("22: number -2", Due.fly(x, 0, 0, -2, 2), Due.KIND);
        due.is("22: number 64", Due.fly(x, 0, 56, 64, 58), Due.KIND);
        due.is("22: one number", Due.fly(x, 0, 0), Due.KIND);
        due.is("22: thirteen", Due.fly(x, 0, 0, -1, -1, -1, -1, -1, -1, -1, -1, -1, -1, -1, 0), Due.KIND);
        due.is("22: over the rim by a gap", Due.fly(x, 0, 6, -1, 8), Due.KIND);
        due.is("22: a step too long", Due.fly(x, 0, 0, 2), Due.KIND);
        x.end(0);
        due.is("22: after the end", Due.fly(x, 1, 0, 1), 2);
        due.is("22: told", x.told(6), 6);
    }

    private static void flyFull() {
        SkyFees x = Due.twoLands(0);
        Due.file(x, 0, 0, 1);
        Due.file(x, 0, 0, 1);
        for (int i = 0; i < 39; i++) {
            due.is("22: row " + i, x.fly(i % 2, 0), i / 2 + 1);
        }
        due.is("22: the fortieth", Due.fly(x, 1, 5, 6, 7, 6, 5, 4, 3, 2, 1, 0, 8, 9), 20);
        due.is("24: its last number", x.row(1, 0, 11), 9);
        due.is("22: one more", x.fly(0, 0), Due.FULL);
        due.is("22: KIND ahead of FULL", Due.fly(x, 0, 0), Due.KIND);
        due.is("22: told when full", x.told(6), 40);
        due.is("22: the last is known", x.row(1, 0, 1), 6);
    }

    private static void flightIs() {
        SkyFees x = Due.twoLands(0);
        x.plane(1, 0, 200);
        x.go(7);
        int flight = Due.file(x, 1, 2, 3, 4);
        int[] first = {1, 7, 3, 0, 0, -1, 0, 0};
        for (int what = 0; what < 8; what++) {
            due.is("23: at first " + what, x.flightIs(flight, what), first[what]);
        }
        Due.fly(x, flight, 2, 3);
        x.go(2);
        x.bill(flight);
        x.bill(flight);
        int[] then = {1, 7, 3, 1, 1, 9, 0, 40};
        for (int what = 0; what < 8; what++) {
            due.is("23: billed " + what, x.flightIs(flight, what), then[what]);
        }
        due.is("23: what 8", x.flightIs(flight, 8), Due.BEYOND);
        due.is("23: what -1", x.flightIs(flight, -1), Due.BEYOND);
        due.is("23: flight 1", x.flightIs(1, 0), Due.BEYOND);
        due.is("23: flight -1", x.flightIs(-1, 0), Due.BEYOND);
        due.is("23: told", x.told(5), 1);
    }

    private static void row() {
        SkyFees x = Due.twoLands(0);
        int flight = Due.file(x, 0, 2, 3, 4);
        x.go(3);
        due.is("24: filed", x.row(flight, -1, 2), 4);
        due.is("24: filed, no number", x.row(flight, -1, 3), Due.NONE);
        due.is("24: none flown", x.row(flight, 3000, 0), Due.NONE);
        Due.fly(x, flight, 2, -1, 2, 10);
        x.go(3);
        Due.fly(x, flight, 9, 8);
        Due.fly(x, flight, 20, 21);
        due.is("24: not known yet", x.row(flight, 2, 0), Due.NONE);
        due.is("24: known on its day", x.row(flight, 3, 3), 10);
        due.is("24: a gap", x.row(flight, 3, 1), -1);
        due.is("24: a day ahead of the next", x.row(flight, 5, 0), 2);
        due.is("24: the last of one day", x.row(flight, 6, 0), 20);
        due.is("24: days to come", x.row(flight, 3000, 1), 21);
        due.is("24: no number", x.row(flight, 6, 2), Due.NONE);
        due.is("24: number 12", x.row(flight, 6, 12), Due.NONE);
        due.is("24: a great number", x.row(flight, 6, Integer.MAX_VALUE), Due.NONE);
        due.is("24: number -1", x.row(flight, 6, -1), Due.BEYOND);
        due.is("24: k -2", x.row(flight, -2, 0), Due.BEYOND);
        due.is("24: k 3001", x.row(flight, 3001, 0), Due.BEYOND);
        due.is("24: flight 1", x.row(1, -1, 0), Due.BEYOND);
        due.is("24: flight -1", x.row(-1, -1, 0), Due.BEYOND);
    }

    private static void miles() {
        SkyFees x = Due.twoLands(0);
        int flight = Due.file(x, 0, 2, 3, 4, 12);
        due.is("25: 10 within, 5 over the border", x.miles(flight, 1, -1, 0), 15);
        due.is("25: 5 in, 5 out", x.miles(flight, 2, -1, 1), 10);
        due.is("25: a land not met", x.miles(flight, 0, -1, 2), 0);
        due.is("25: none flown", x.miles(flight, 1, 3000, 0), Due.NONE);
        // from 9 to 11 by 1, 10, or 17: over land 1 only by 1, 2, 3
        Due.fly(x, flight, 9, -1, -1, -1, 11);
        due.is("25: the least", x.miles(flight, 1, 0, 0), 0);
        due.is("25: the most", x.miles(flight, 1, 0, 1), 30);
        due.is("25: the middle", x.miles(flight, 1, 0, 2), 15);
        due.is("25: least as filed has no gaps", x.miles(flight, 1, -1, 2), 15);
        Due.fly(x, flight, 1, -1, 1);
        due.is("25: out and back", x.miles(flight, 1, 0, 0), 10);
        due.is("25: within", x.miles(flight, 1, 0, 1), 20);
        Due.fly(x, flight, 11, -1, 4);
        due.is("25: by 12", x.miles(flight, 1, 0, 0), 0);
        due.is("25: by 3", x.miles(flight, 1, 0, 1), 10);
        due.is("25: between them", x.miles(flight, 1, 0, 2), 5);
        due.is("25: the end alone by both ways", x.miles(flight, 2, 0, 2), 5);
        x.cell(12, 2);
        due.is("25: by the lands of now", x.miles(flight, 2, -1, 0), 15);
        due.is("25: what 3", x.miles(flight, 2, -1, 3), Due.BEYOND);
        due.is("25: what -1", x.miles(flight, 2, -1, -1), Due.BEYOND);
        due.is("25: k -2", x.miles(flight, 2, -2, 0), Due.BEYOND);
        due.is("25: k 3001", x.miles(flight, 2, 3001, 0), Due.BEYOND);
        due.is("25: land 8", x.miles(flight, 8, -1, 0), Due.BEYOND);
        due.is("25: land -1", x.miles(flight, -1, -1, 0), Due.BEYOND);
        due.is("25: flight 1", x.miles(1, 1, -1, 0), Due.BEYOND);
    }

    private static void bill() {
        SkyFees x = Due.twoLands(0);
        x.plane(0, 0, 1);
        x.rate(1, 250);
        x.rate(2, 99);
        // FACTOR 14: 15 miles are 2 units, 2 units cost 5 and 1
        int flight = Due.file(x, 1, 2, 3, 4, 5);
        due.is("26: cut twice", x.bill(flight), 6);
        due.is("26: land 1", x.fee(flight, 1), 5);
        due.is("26: land 2", x.fee(flight, 2), 1);
        due.is("26: owed", x.owes(0, -1), 6);
        due.is("26: income", x.landIs(1, 3), 5);
        due.is("26: again", x.bill(flight), Due.STATE);
        due.is("26: flight 1", x.bill(1), Due.BEYOND);
        due.is("26: flight -1", x.bill(-1), Due.BEYOND);
        Due.law(x, 0, 0, "l=1");
        Due.law(x, 2, 0, "100*l");
        int free = Due.file(x, 0, 2, 3, 4, 5);
        due.is("26: free in land 1, FACTOR by land", x.bill(free), 29);
        due.is("26: free", x.fee(free, 1), 0);
        due.is("26: not free", x.fee(free, 2), 29);
        x.go(1);
        Due.law(x, 0, 1, "1");
        int late = Due.file(x, 0, 2, 3, 4, 5);
        due.is("26: free on its day", x.bill(late), 0);
        due.is("26: told", x.told(5), 3);
    }

    /** Land 0, and day 0, are like all others. */
    private static void billOfLandZero() {
        SkyFees x = new SkyFees();
        x.cell(0, 0);
        x.cell(1, 0);
        x.airline(0);
        x.plane(0, 0, 50);
        x.rate(0, 400);
        x.land(0, 100, 50);
        Due.law(x, 1, 0, "l=0");
        int flight = Due.file(x, 0, 8, 0, 1, 2);
        int same = Due.file(x, 0, 8, 0, 1, 2);
        due.is("26: land 0 wants what was flown", x.bill(flight), Due.STATE);
        due.is("20: m with land 0", x.says(Due.law(x, 3, 0, "m"), 0, flight, 0), 20);
        Due.fly(x, flight, 0, 1);
        Due.fly(x, same, 0, 1);
        due.is("26: 10 miles", x.bill(flight), 40);
        due.is("23: billed on day 0", x.flightIs(flight, 4), 1);
        due.is("23: the day of that", x.flightIs(flight, 5), 0);
        due.is("23: all fees", x.flightIs(flight, 7), 40);
        due.is("26: doubled by one billed on day 0", x.bill(same), 0);
        due.is("14: owed to land 0", x.owes(0, 0), 40);
        due.is("14: all", x.owes(0, -1), 40);
        due.is("6: income of land 0", x.landIs(0, 3), 40);
        x.go(100);
        due.is("30: a twentieth for land 0", x.owes(0, 0), 42);
        due.is("30: rest of land 0", x.landIs(0, 4), 60);
        due.is("30: rate of land 0", x.landIs(0, 2), 359);
        due.is("16: lost of land 0", x.end(0), 42);
        due.is("6: lost of land 0", x.landIs(0, 7), 42);
    }

    private static void billState() {
        SkyFees x = Due.twoLands(0);
        Due.law(x, 1, 5, "l=2");
        Due.law(x, 3, 0, "l");
        int early = Due.file(x, 0, 2, 3);
        due.is("26: the law is not in force yet", x.bill(early), 15 - 5);
        x.go(5);
        int flight = Due.file(x, 0, 1, 2);
        due.is("26: no row told, for a land far off", x.bill(flight), Due.STATE);
        due.is("26: not billed by that", x.flightIs(flight, 4), 0);
        due.is("26: nothing owed by that", x.owes(0, -1), 10);
        Due.law(x, 0, 5, "l=2");
        due.is("26: free where it would be flown", x.bill(flight), 10);
        int mixed = Due.file(x, 0, 2, 3, 4);
        Due.law(x, 0, 5, "0");
        // land 1 as filed: 10 + 5; land 2 as flown from 3 to 5, by 4 alone: 10 + 5
        Due.fly(x, mixed, 3, -1, 5);
        due.is("26: filed in 1, flown in 2", x.bill(mixed), 15 + 15);
        int ended = Due.file(x, 0, 5, 6);
        x.end(0);
        due.is("26: its airline has ended", x.bill(ended), Due.STATE);
    }

    private static void doubled() {
        SkyFees x = Due.twoLands(0);
        x.plane(0, 0, 50);
        int first = Due.file(x, 0, 2, 3);
        int same = Due.file(x, 0, 2, 3);
        int third = Due.file(x, 0, 2, 3);
        int otherPlane = Due.file(x, 1, 2, 3);
        int otherRow = Due.file(x, 0, 2, 3, 4);
        int back = Due.file(x, 0, 3, 2);
        int otherFirst = Due.file(x, 0, 4, 3);
        x.go(1);
        int otherDay = Due.file(x, 0, 2, 3);
        due.is("26: the later one first", x.bill(same), 10);
        due.is("23: not doubled", x.flightIs(same, 6), 0);
        due.is("23: not billed yet, not doubled", x.flightIs(first, 6), 0);
        due.is("26: doubled", x.bill(first), 0);
        due.is("23: doubled", x.flightIs(first, 6), 1);
        due.is("26: a third", x.bill(third), 0);
        due.is("26: another plane", x.bill(otherPlane), 10);
        due.is("26: another row", x.bill(otherRow), 20);
        due.is("26: the way back", x.bill(back), 10);
        due.is("26: another first cell", x.bill(otherFirst), 10);
        due.is("26: another day", x.bill(otherDay), 10);
        due.is("28: fee of a doubled one", x.fee(first, 1), 0);
        due.is("27: a doubled one stays 0", x.right(first), 0);
        due.is("29: without doubled ones", x.beside(1, false), 10 + 10 + 15 + 10 + 5 + 10);
    }

    private static void right() {
        SkyFees x = Due.twoLands(0);
        Due.law(x, 1, 0, "1");
        int flight = Due.file(x, 0, 2, 3);
        due.is("27: not billed", x.right(flight), Due.STATE);
        due.is("27: flight 1", x.right(1), Due.BEYOND);
        due.is("27: flight -1", x.right(-1), Due.BEYOND);
        Due.fly(x, flight, 2, 3);
        due.is("27: billed", x.bill(flight), 10);
        due.is("27: the same", x.right(flight), 0);
        x.rate(1, 1000);
        Due.fly(x, flight, 1, 2, 3, 4);
        due.is("27: more, by the rate of then", x.right(flight), 20);
        due.is("27: owed to 1", x.owes(0, 1), 25);
        due.is("27: owed to 2", x.owes(0, 2), 5);
        due.is("27: income stays", x.landIs(1, 3), 10);
        due.is("27: fee of now", x.fee(flight, 1), 25);
        Due.fly(x, flight, 10, 2);
        due.is("27: less", x.right(flight), -25);
        due.is("27: owed less", x.owes(0, 1), 5);
        due.is("27: owed nothing", x.owes(0, 2), 0);
        due.is("27: all fees", x.flightIs(flight, 7), 5);
        due.is("27: no finding", x.found(4) + x.found(5), 0);
        Due.law(x, 1, 0, "0");
        due.is("27: by the law of now", x.right(flight), 5);
        Due.law(x, 0, 0, "1");
        due.is("27: free now", x.right(flight), -10);
        x.end(0);
        due.is("27: its airline has ended", x.right(flight), Due.STATE);
        x = Due.twoLands(0);
        flight = Due.file(x, 0, 2, 3);
        x.bill(flight);
        Due.law(x, 1, 0, "1");
        due.is("27: no row told", x.right(flight), Due.STATE);
    }

    private static void rightGivesBack() {
        SkyFees x = Due.twoLands(12);
        int flight = Due.file(x, 0, 1, 2, 3);
        due.is("27: billed first", x.bill(flight), 20);
        due.is("27: paid a part", x.pay(0, 1, 12), 8);
        Due.law(x, 1, 0, "1");
        Due.fly(x, flight, 2, 3);
        due.is("27: ten less", x.right(flight), -10);
        due.is("27: owes nothing", x.owes(0, 1), 0);
        due.is("27: the rest is coin", x.coin(0), 2);
        Due.fly(x, flight, 50, 51);
        due.is("27: all of it", x.right(flight), -10);
        due.is("27: all is coin", x.coin(0), 12);
    }

    private static void fee() {
        SkyFees x = Due.twoLands(0);
        int flight = Due.file(x, 0, 2, 3, 4);
        due.is("28: not billed", x.fee(flight, 1), Due.NONE);
        x.bill(flight);
        due.is("28: land 1", x.fee(flight, 1), 15);
        due.is("28: land 2", x.fee(flight, 2), 5);
        due.is("28: land 0", x.fee(flight, 0), 0);
        due.is("28: land 8", x.fee(flight, 8), Due.BEYOND);
        due.is("28: land -1", x.fee(flight, -1), Due.BEYOND);
        due.is("28: flight 1", x.fee(1, 1), Due.BEYOND);
        due.is("28: flight -1", x.fee(-1, 1), Due.BEYOND);
    }

    private static void beside() {
        SkyFees x = Due.twoLands(0);
        int first = Due.file(x, 0, 2, 3, 4);
        int second = Due.file(x, 0, 0, 1);
        int third = Due.file(x, 0, 1, 0);
        due.is("29: none billed", x.beside(1, false), 0);
        x.bill(first);
        x.rate(1, 200);
        x.bill(second);
        x.rate(1, 300);
        due.is("29: by the rates of then", x.beside(1, false), 15 + 20);
        due.is("29: without rows", x.beside(1, true), 0);
        Due.fly(x, first, 9, -1, 11);
        Due.fly(x, second, 0, 1, 2);
        Due.fly(x, third, 0, 1, 2);
        due.is("29: flown, the least", x.beside(1, true), 0 + 40);
        Due.law(x, 3, 0, "1");
        due.is("29: flown, the most", x.beside(1, true), 0 + 40);
        Due.fly(x, first, 9, -1, 3);
        due.is("29: 9 and 3 are too far", x.row(first, 0, 2), 11);
        Due.fly(x, first, 9, -1, -1, 3);
        due.is("29: by 1, 2, 3 the most", x.beside(1, true), 25 + 40);
        Due.law(x, 3, 0, "7");
        due.is("29: the middle", x.beside(1, true), 15 + 40);
        Due.law(x, 0, 0, "l=1");
        due.is("29: free", x.beside(1, true), 0);
        due.is("29: not free", x.beside(2, false), 5);
        due.is("29: fees stay", x.fee(first, 1), 15);
        x.end(0);
        due.is("29: after the end", x.beside(2, false), 5);
        due.is("29: land 8", x.beside(8, false), Due.BEYOND);
        due.is("29: land -1", x.beside(-1, true), Due.BEYOND);
    }
}
