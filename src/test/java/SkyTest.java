/** Promises 1 to 7: a new object, cells and lands. */
public final class SkyTest {
    private static final Due due = new Due();

    public static void main(String[] args) {
        aNewObject();
        cell();
        block();
        shut();
        land();
        landIs();
        rate();
        due.end();
    }

    private static void aNewObject() {
        SkyFees x = new SkyFees();
        for (int c = 0; c < 64; c++) {
            due.is("1: cell " + c + " is of no land", x.cell(c, -1), -1);
            due.is("1: cell " + c + " is not shut", x.shut(c, false), 0);
        }
        int[] first = {0, 1000, 100, 0, 0, 0, 0, 0};
        for (int l = 0; l < 8; l++) {
            for (int what = 0; what < 8; what++) {
                due.is("1: landIs(" + l + ", " + what + ")", x.landIs(l, what), first[what]);
            }
        }
        for (int what = 0; what <= 12; what++) {
            due.is("1: told(" + what + ")", x.told(what), 0);
        }
        for (int k = 1; k <= 5; k++) {
            due.is("1: found(" + k + ")", x.found(k), 0);
        }
        due.is("1: fuel", x.fuel(10), 10);
        for (int s = 0; s < 4; s++) {
            due.is("1: sheet " + s + " is missing", x.put(s, 0, 0), Due.NONE);
        }
        due.is("1: no image", x.restore(), Due.NONE);
        due.is("1: no trace", x.trace(0), Due.NONE);
    }

    private static void cell() {
        SkyFees x = new SkyFees();
        due.is("2: of none", x.cell(63, 7), -1);
        due.is("2: of 7", x.cell(63, 0), 7);
        due.is("2: of 0", x.cell(63, -1), 0);
        due.is("2: of none again", x.cell(63, 3), -1);
        due.is("2: cell -1", x.cell(-1, 0), Due.BEYOND);
        due.is("2: cell 64", x.cell(64, 0), Due.BEYOND);
        due.is("2: land -2", x.cell(63, -2), Due.BEYOND);
        due.is("2: land 8", x.cell(63, 8), Due.BEYOND);
        due.is("2: the least int", x.cell(Integer.MIN_VALUE, Integer.MIN_VALUE), Due.BEYOND);
        due.is("2: nothing changed", x.cell(63, 3), 3);
        due.is("2: cells of 3", x.landIs(3, 5), 1);
    }

    private static void block() {
        SkyFees x = new SkyFees();
        due.is("3: missing", x.block(0, 0), Due.NONE);
        due.is("3: sheet -1", x.block(-1, 0), Due.BEYOND);
        due.is("3: sheet 4", x.block(4, 0), Due.BEYOND);
        due.is("3: cell 64 ahead of missing", x.block(0, 64), Due.BEYOND);
        due.is("3: cell -1", x.block(0, -1), Due.BEYOND);
        Due.write(x, 0, 8, 7, -1, 0);
        x.cell(62, 5);
        due.is("3: to the last cell", x.block(0, 61), 3);
        due.is("3: cell 61", x.cell(61, 7), 7);
        due.is("3: cell 62", x.cell(62, -1), -1);
        due.is("3: cell 63", x.cell(63, 0), 0);
        due.is("3: one too many", x.block(0, 62), Due.STATE);
        due.is("3: cell 62 stays", x.cell(62, -1), -1);
        Due.write(x, 1, 16, 1, 1, 8);
        due.is("3: a number 8", x.block(1, 0), Due.KIND);
        due.is("3: no cell changed", x.cell(0, -1), -1);
        due.is("3: STATE ahead of KIND", x.block(1, 62), Due.STATE);
        Due.write(x, 1, 32, -2);
        due.is("3: a number -2", x.block(1, 0), Due.KIND);
        x.sheet(2, 8, 0);
        due.is("3: no numbers", x.block(2, 63), 0);
        int[] all = new int[24];
        java.util.Arrays.fill(all, 4);
        Due.write(x, 3, 8, all);
        due.is("3: 24 numbers", x.block(3, 40), 24);
        due.is("3: cells of 4", x.landIs(4, 5), 24);
    }

    private static void shut() {
        SkyFees x = new SkyFees();
        due.is("4: shut", x.shut(0, true), 1);
        due.is("4: shut again", x.shut(0, true), 0);
        due.is("4: not shut", x.shut(0, false), 1);
        due.is("4: not shut again", x.shut(0, false), 0);
        due.is("4: cell 63", x.shut(63, true), 1);
        due.is("4: cell 64", x.shut(64, true), Due.BEYOND);
        due.is("4: cell -1", x.shut(-1, false), Due.BEYOND);
    }

    private static void land() {
        SkyFees x = new SkyFees();
        due.is("5: at first", x.land(0, 9999, 1), 0);
        due.is("5: then", x.land(0, 0, 9999), 9999);
        due.is("5: cost 10000", x.land(0, 10000, 5), Due.BEYOND);
        due.is("5: cost -1", x.land(0, -1, 5), Due.BEYOND);
        due.is("5: foretold 0", x.land(0, 5, 0), Due.BEYOND);
        due.is("5: foretold 10000", x.land(0, 5, 10000), Due.BEYOND);
        due.is("5: land 8", x.land(8, 5, 5), Due.BEYOND);
        due.is("5: land -1", x.land(-1, 5, 5), Due.BEYOND);
        due.is("5: cost stays", x.landIs(0, 0), 0);
        due.is("5: foretold stays", x.landIs(0, 1), 9999);
        due.is("5: another land", x.landIs(1, 1), 1000);
    }

    private static void landIs() {
        SkyFees x = Due.twoLands(0);
        x.land(1, 700, 35);
        x.rate(1, 300);
        int flight = Due.file(x, 0, 0, 1, 2);
        x.bill(flight);
        int[] then = {700, 35, 300, 60, 0, 4, 60, 0};
        for (int what = 0; what < 8; what++) {
            due.is("6: landIs(1, " + what + ")", x.landIs(1, what), then[what]);
        }
        x.go(100);
        due.is("6: rate after a year", x.landIs(1, 2), 331);
        due.is("6: income after a year", x.landIs(1, 3), 0);
        due.is("6: rest of the year", x.landIs(1, 4), 640);
        due.is("6: owed after a year", x.landIs(1, 6), 63);
        x.end(0);
        due.is("6: owed after the end", x.landIs(1, 6), 0);
        due.is("6: lost", x.landIs(1, 7), 63);
        due.is("6: what 8", x.landIs(1, 8), Due.BEYOND);
        due.is("6: what -1", x.landIs(1, -1), Due.BEYOND);
        due.is("6: land 8", x.landIs(8, 0), Due.BEYOND);
        due.is("6: land -1", x.landIs(-1, 0), Due.BEYOND);
        restFarBelow();
    }

    private static int allFound(SkyFees x) {
        return x.found(1) + x.found(2) + x.found(3) + x.found(4) + x.found(5);
    }

    /** A rest below -1000000 is a number and no finding. */
    private static void restFarBelow() {
        SkyFees x = Due.twoLands(0);
        x.rate(1, 9999);
        Due.law(x, 2, 0, "9999");
        int flight = Due.file(x, 0, 0, 1, 2, 3, 2, 1, 0, 1, 2, 3, 2, 1);
        // 110 miles are 10998 units, and those cost 1099690
        due.is("6: a great fee", x.bill(flight), 1099690);
        x.land(1, 5, 1);
        x.go(100);
        due.is("6: rest far below", x.landIs(1, 4), 5 - 1099690);
        due.is("6: no finding", allFound(x), 0);
        x.rate(1, 9999);
        for (int i = 0; i < 29; i++) {
            x.bill(x.file(0, 0));
            x.go(1);
        }
        x.go(71);
        due.is("6: rest of 29 flights", x.landIs(1, 4), 5 - 29 * 1099690);
        x.rate(1, 9999);
        x.go(100);
        // 100 times that rest is below every int, and the rate goes down all the same
        due.is("6: down by a tenth and 1", x.landIs(1, 2), 8999);
        due.is("6: still no finding", allFound(x), 0);
    }

    private static void rate() {
        SkyFees x = new SkyFees();
        due.is("7: at first", x.rate(7, 9999), 100);
        due.is("7: then", x.rate(7, 0), 9999);
        due.is("7: rate 10000", x.rate(7, 10000), Due.BEYOND);
        due.is("7: rate -1", x.rate(7, -1), Due.BEYOND);
        due.is("7: land 8", x.rate(8, 1), Due.BEYOND);
        due.is("7: land -1", x.rate(-1, 1), Due.BEYOND);
        due.is("7: stays", x.landIs(7, 2), 0);
        due.is("7: another land", x.landIs(6, 2), 100);
    }
}
