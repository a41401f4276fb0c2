/** Promises 30 to 33: days, years, the cheapest way. */
public final class WayTest {
    private static final Due due = new Due();

    public static void main(String[] args) {
        go();
        years();
        restTwoYearsOn();
        fuel();
        cheapest();
        ties();
        gain();
        due.end();
    }

    private static void go() {
        SkyFees x = new SkyFees();
        due.is("30: n 0", x.go(0), Due.BEYOND);
        due.is("30: n -1", x.go(-1), Due.BEYOND);
        due.is("30: n 201", x.go(201), Due.BEYOND);
        for (int i = 1; i < 15; i++) {
            due.is("30: day " + 200 * i, x.go(200), 200 * i);
        }
        due.is("30: day 2999", x.go(199), 2999);
        due.is("30: above 3000", x.go(2), Due.BEYOND);
        due.is("30: told", x.told(7), 2999);
        due.is("30: the last day", x.go(1), 3000);
        due.is("30: no more", x.go(1), Due.BEYOND);
    }

    private static void years() {
        SkyFees x = Due.twoLands(0);
        x.land(1, 1, 1);
        x.rate(1, 9900);
        x.rate(2, 0);
        x.land(2, 9999, 1);
        x.rate(3, 1);
        x.rate(4, 100);
        x.land(4, 1050, 1000);
        int flight = Due.file(x, 0, 4, 5, 6, 7);
        due.is("30: rate 0, fee 0", x.bill(flight), 0);
        x.rate(2, 130);
        due.is("30: owed 39", x.bill(Due.file(x, 0, 7, 6, 5, 4)), 39);
        x.rate(2, 0);
        due.is("30: a day short of a year", x.go(99), 99);
        due.is("30: still owed 39", x.owes(0, 2), 39);
        due.is("30: rate 9900 yet", x.landIs(1, 2), 9900);
        x.go(1);
        due.is("30: a twentieth, cut", x.owes(0, 2), 40);
        due.is("30: down by a tenth and 1", x.landIs(1, 2), 8909);
        due.is("30: up from 0 by 1", x.landIs(2, 2), 1);
        due.is("30: not below 0", x.landIs(3, 2), 0);
        due.is("30: just what is wanted", x.landIs(4, 2), 105);
        due.is("30: rest", x.landIs(2, 4), 9999 - 39);
        x.go(200);
        due.is("30: two twentieths more", x.owes(0, 2), 44);
        x.rate(5, 9999);
        x.land(5, 9999, 1);
        x.go(100);
        due.is("30: not above 9999", x.landIs(5, 2), 9999);
    }

    /** What year 0 had too little comes to the rate that the end of year 1 sets, and no earlier. */
    private static void restTwoYearsOn() {
        SkyFees x = Due.twoLands(0);
        x.land(1, 1000, 1000);
        x.bill(Due.file(x, 0, 1, 2, 3));
        x.go(100);
        due.is("30: year 0: no rest ahead", x.landIs(1, 2), 100);
        due.is("30: rest of year 0", x.landIs(1, 4), 980);
        x.land(1, 1000, 1900);
        x.rate(1, 103);
        x.go(100);
        // 100 * (1000 + 980) / 1900 = 104
        due.is("30: year 1: by the rest of year 0", x.landIs(1, 2), 104);
        due.is("30: rest of year 1", x.landIs(1, 4), 1000);
        x.land(1, 50, 1000);
        x.rate(1, 105);
        x.bill(Due.file(x, 0, 1, 2, 3));
        x.go(100);
        // 100 * (50 + 1000) / 1000 = 105
        due.is("30: year 2: by the rest of year 1", x.landIs(1, 2), 105);
        due.is("30: rest of year 2, of 21 billed", x.landIs(1, 4), 29);
    }

    private static void fuel() {
        SkyFees x = new SkyFees();
        due.is("31: at first", x.fuel(999), 10);
        due.is("31: then", x.fuel(0), 999);
        due.is("31: 1000", x.fuel(1000), Due.BEYOND);
        due.is("31: -1", x.fuel(-1), Due.BEYOND);
        due.is("31: stays", x.fuel(5), 0);
    }

    private static void way(String name, SkyFees x, int from, int to, int cost, int... cells) {
        due.is("32: " + name + ": cost", x.cheapest(0, from, to, -1), cost);
        due.is("32: " + name + ": steps", x.cheapest(0, from, to, -2), cells.length - 1);
        for (int i = 0; i < cells.length; i++) {
            due.is("32: " + name + ": cell " + i, x.cheapest(0, from, to, i), cells[i]);
        }
        due.is("32: " + name + ": no more", x.cheapest(0, from, to, cells.length), Due.NONE);
    }

    private static SkyFees empty() {
        SkyFees x = new SkyFees();
        x.airline(0);
        x.plane(0, 0, 50);
        return x;
    }

    private static void cheapest() {
        SkyFees x = empty();
        due.is("32: plane 1", x.cheapest(1, 0, 1, 0), Due.BEYOND);
        due.is("32: plane -1", x.cheapest(-1, 0, 1, 0), Due.BEYOND);
        due.is("32: from 64", x.cheapest(0, 64, 1, 0), Due.BEYOND);
        due.is("32: from -1", x.cheapest(0, -1, 1, 0), Due.BEYOND);
        due.is("32: to 64", x.cheapest(0, 0, 64, 0), Due.BEYOND);
        due.is("32: to -1", x.cheapest(0, 0, -1, 0), Due.BEYOND);
        due.is("32: what -3", x.cheapest(0, 0, 1, -3), Due.BEYOND);
        due.is("32: a great number", x.cheapest(0, 0, 1, Integer.MAX_VALUE), Due.NONE);
        way("straight", x, 0, 7, 70, 0, 1, 2, 3, 4, 5, 6, 7);
        way("nowhere", x, 9, 9, 0, 9);
        way("no step over the rim", x, 7, 8, 80, 7, 6, 5, 4, 3, 2, 1, 0, 8);
        x.shut(1, true);
        x.shut(8, true);
        due.is("32: shut in", x.cheapest(0, 0, 2, -1), Due.NONE);
        due.is("32: shut out", x.cheapest(0, 2, 0, -2), Due.NONE);
        way("shut in, nowhere", x, 0, 0, 0, 0);
        due.is("32: to a shut one", x.cheapest(0, 2, 1, 0), Due.NONE);
        due.is("32: from a shut one", x.cheapest(0, 1, 2, 0), Due.NONE);
        due.is("32: a shut one itself", x.cheapest(0, 1, 1, -1), Due.NONE);
        longest();
    }

    /** Walls leave one way that winds through all rows. */
    private static void longest() {
        SkyFees x = empty();
        x.fuel(999);
        for (int r = 1; r < 8; r += 2) {
            for (int c = 0; c < 8; c++) {
                x.shut(8 * r + c, c != (r % 4 == 1 ? 7 : 0));
            }
        }
        int steps = x.cheapest(0, 0, 48, -2);
        due.is("32: it winds", steps, 7 * 4 + 6);
        due.is("32: what it costs", x.cheapest(0, 0, 48, -1), 999 * steps);
        due.is("32: where it ends", x.cheapest(0, 0, 48, steps), 48);
    }

    private static void ties() {
        SkyFees x = empty();
        x.fuel(0);
        way("fewest steps at no cost", x, 27, 45, 0, 27, 28, 29, 37, 45);
        way("first row backward", x, 45, 27, 0, 45, 37, 29, 28, 27);
        x.cell(28, 0);
        x.cell(36, 0);
        x.rate(0, 10000 / 500);
        // 5 * 100 * 20 / 10000 = 1 for each cell of it at each step
        way("round a dear cell by more steps", x, 27, 29, 0, 27, 19, 20, 21, 29);
        x.fuel(1);
        way("as dear, by fewer steps", x, 27, 29, 4, 27, 28, 29);
        x.rate(0, 19);
        way("cut to nothing", x, 27, 29, 2, 27, 28, 29);
        Due.law(x, 2, 0, "2000");
        due.is("32: FACTOR by the law", x.cheapest(0, 28, 36, -1), 1 + 19 + 19);
    }

    private static void gain() {
        SkyFees x = empty();
        for (int c = 0; c < 8; c++) {
            x.cell(c, c < 4 ? 1 : 2);
            x.shut(8 + c, true);
        }
        // 5 * 100 * 100 / 10000 = 5 for each cell at each step
        due.is("33: its own steps", x.gain(0, 0, 7, 1), 5 * 7);
        due.is("33: of the other", x.gain(0, 0, 7, 2), 5 * 7);
        due.is("33: of none", x.gain(0, 0, 7, 3), 0);
        due.is("33: with the cost", x.cheapest(0, 0, 7, -1), 70 + 70);
        due.is("33: one step", x.gain(0, 3, 4, 2), 5);
        due.is("33: nowhere", x.gain(0, 3, 3, 1), 0);
        due.is("33: no way", x.gain(0, 3, 20, 1), Due.NONE);
        due.is("33: land 8", x.gain(0, 3, 4, 8), Due.BEYOND);
        due.is("33: land -1", x.gain(0, 3, 4, -1), Due.BEYOND);
        due.is("33: plane 1", x.gain(1, 3, 4, 1), Due.BEYOND);
        due.is("33: from 64", x.gain(0, 64, 4, 1), Due.BEYOND);
        due.is("33: to -1", x.gain(0, 3, -1, 1), Due.BEYOND);
        Due.law(x, 2, 0, "l*100");
        due.is("33: FACTOR by land 1", x.gain(0, 0, 7, 1), 5 * 7);
        due.is("33: FACTOR by land 2", x.gain(0, 0, 7, 2), 10 * 7);
    }
}
