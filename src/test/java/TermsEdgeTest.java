/** Boundary cases of the terms 1 to 4 (T1 .. T4); each sentence that names one has a function of its own. */
public final class TermsEdgeTest {
    private static final Due due = new Due();

    public static void main(String[] args) {
        nextHaveASideInCommon();
        noneIsShutAtFirst();
        yearIsDayByHundred();
        incomeIsOfTheYear();
        factorWithoutALaw();
        factorBelowAndAbove();
        knownOnADay();
        milesOfSteps();
        middleIsHalfOfBoth();
        leastAndMostOverAllWays();
        unitsAndFeeAreCut();
        numbersOfDigits();
        openAtOnce();
        intsThatWrap();
        byZero();
        oneOrZero();
        allIsWorkedOut();
        namesWithout();
        toldLastForThatDay();
        withoutALaw();
        freeBaseGapOtherNumbers();
        askedForTheDayOfFiling();
        due.end();
    }

    private static void nextHaveASideInCommon() {
        for (int a = 0; a < 64; a++) {
            SkyFees x = new SkyFees();
            x.airline(0);
            x.plane(0, 0, 1);
            x.sheet(0, 8, 2);
            x.put(0, 0, a);
            int flights = 0;
            for (int b = 0; b < 64; b++) {
                x.put(0, 1, b);
                boolean next = Math.abs(a % 8 - b % 8) + Math.abs(a / 8 - b / 8) == 1;
                due.is("T1: NEXT are " + a + " and " + b, x.file(0, 0), next ? flights : Due.KIND);
                flights += next ? 1 : 0;
            }
        }
    }

    private static void noneIsShutAtFirst() {
        SkyFees x = new SkyFees();
        for (int c = 0; c < 64; c++) {
            due.is("T1: not SHUT at first, " + c, x.shut(c, true), 1);
        }
    }

    /** A year is over when the day becomes a hundred more, and on no other day. */
    private static void yearIsDayByHundred() {
        SkyFees x = new SkyFees();
        x.land(0, 9999, 1);
        for (int year = 1; year <= 30; year++) {
            x.rate(0, 0);
            x.go(99);
            due.is("T1: no YEAR is over on DAY " + x.told(7), x.landIs(0, 2), 0);
            x.go(1);
            due.is("T1: a YEAR is over on DAY " + x.told(7), x.landIs(0, 2), 1);
        }
        due.is("T1: the last DAY", x.told(7), 3000);
        SkyFees y = new SkyFees();
        y.land(0, 9999, 1);
        y.rate(0, 0);
        y.go(99);
        y.go(200);
        due.is("T1: two YEARS are over in 200 days", y.landIs(0, 2), 2);
        y.go(200);
        due.is("T1: two more, days 300 and 400", y.landIs(0, 2), 4);
    }

    private static void incomeIsOfTheYear() {
        SkyFees x = Due.twoLands(0);
        x.bill(Due.file(x, 0, 2, 3));
        x.go(99);
        x.bill(Due.file(x, 0, 2, 3));
        due.is("T1: INCOME of DAY 0 and DAY 99", x.landIs(1, 3), 20);
        x.go(1);
        due.is("T1: INCOME of the new YEAR", x.landIs(1, 3), 0);
        x.rate(1, 100);
        x.bill(Due.file(x, 0, 2, 3));
        due.is("T1: INCOME of DAY 100", x.landIs(1, 3), 10);
        x.go(100);
        due.is("T1: REST is COST less that INCOME alone", x.landIs(1, 4), -10);
    }

    private static void factorWithoutALaw() {
        for (int first = 1; first <= 600; first += 12) {
            SkyFees x = new SkyFees();
            x.airline(0);
            for (int i = 0; i < 12; i++) {
                int weight = first + i;
                int factor = x.planeIs(x.plane(0, 0, weight), 3);
                boolean greatest = factor * factor <= 200 * weight && (factor + 1) * (factor + 1) > 200 * weight;
                due.is("T2: FACTOR of WEIGHT " + weight + " is " + factor, greatest ? 1 : 0, 1);
            }
        }
    }

    private static int factorBy(String text) {
        SkyFees x = new SkyFees();
        x.airline(0);
        x.plane(0, 0, 50);
        Due.law(x, 2, 0, text);
        return x.planeIs(0, 3);
    }

    private static void factorBelowAndAbove() {
        due.is("T2: FACTOR 0", factorBy("0"), 0);
        due.is("T2: FACTOR below", factorBy("0-1"), 0);
        due.is("T2: FACTOR of the least int", factorBy("1024*1024*2048"), 0);
        due.is("T2: FACTOR 9999", factorBy("9999"), 9999);
        due.is("T2: FACTOR 9998", factorBy("9998"), 9998);
        due.is("T2: FACTOR above", factorBy("9999+1"), 9999);
        due.is("T2: FACTOR of the greatest int", factorBy("1024*1024*2048-1"), 9999);
        SkyFees x = Due.twoLands(0);
        Due.law(x, 2, 0, "0-5");
        due.is("T2: FEES of such a FACTOR", x.bill(Due.file(x, 0, 2, 3)), 0);
        due.is("T2: the way of such a FACTOR costs FUEL alone", x.cheapest(0, 2, 3, -1), 10);
    }

    private static void knownOnADay() {
        SkyFees x = Due.twoLands(0);
        int flight = Due.file(x, 0, 0, 1);
        Due.fly(x, flight, 10, 11);
        x.go(1);
        Due.fly(x, flight, 20, 21);
        Due.fly(x, flight, 30, 31);
        x.go(2);
        Due.fly(x, flight, 40, 41);
        int[] first = {10, 30, 30, 40, 40};
        for (int k = 0; k < 5; k++) {
            due.is("T3: KNOWN on day " + k, x.row(flight, k, 0), first[k]);
        }
        due.is("T3: KNOWN on day 3000", x.row(flight, 3000, 0), 40);
    }

    private static void milesOfSteps() {
        SkyFees x = Due.twoLands(0);
        due.is("T3: 10 within", x.miles(Due.file(x, 0, 0, 1), 1, -1, 0), 10);
        due.is("T3: 5 over a border, here", x.miles(Due.file(x, 0, 3, 4), 1, -1, 0), 5);
        due.is("T3: 5 over a border, there", x.miles(Due.file(x, 0, 3, 4), 2, -1, 0), 5);
        due.is("T3: 5 to a CELL of none", x.miles(Due.file(x, 0, 0, 8), 1, -1, 0), 5);
        due.is("T3: 5 from a CELL of none", x.miles(Due.file(x, 0, 8, 0), 1, -1, 0), 5);
        due.is("T3: 0 outside", x.miles(Due.file(x, 0, 8, 9), 1, -1, 0), 0);
        due.is("T3: 110 by 11 steps", x.miles(Due.file(x, 0, 0, 1, 0, 1, 0, 1, 0, 1, 0, 1, 0, 1), 1, -1, 0), 110);
        due.is("T3: in and out", x.miles(Due.file(x, 0, 8, 0, 8), 1, -1, 0), 10);
    }

    /** Ways of one row differ by tens, so that half of the least and the most is never cut. */
    private static void middleIsHalfOfBoth() {
        SkyFees x = Due.twoLands(0);
        int flight = Due.file(x, 0, 0, 1);
        // from 1 to 8 the gap is 0, of land 1, or 9, of none
        Due.fly(x, flight, 1, -1, 8);
        due.is("T3: the least", x.miles(flight, 1, 0, 0), 5);
        due.is("T3: the most", x.miles(flight, 1, 0, 1), 15);
        due.is("T3: MIDDLE", x.miles(flight, 1, 0, 2), 10);
        x.cell(1, -1);
        due.is("T3: MIDDLE of 0 and 10", x.miles(flight, 1, 0, 2), 5);
        x.cell(9, 1);
        due.is("T3: MIDDLE where both are the same", x.miles(flight, 1, 0, 2), 10);
        due.is("T3: MIDDLE of nothing", x.miles(flight, 7, 0, 2), 0);
    }

    /** All ways of a row with gaps are walked one by one for this. */
    private static void leastAndMostOverAllWays() {
        SkyFees x = new SkyFees();
        x.airline(0);
        x.plane(0, 0, 50);
        int[] mine = {0, 9, 18, 11, 25, 2, 63};
        for (int c : mine) {
            x.cell(c, 5);
        }
        int[][] rows = {{0, -1, -1, 9, -1, 11}, {16, -1, -1, -1, -1, -1, -1, 27}, {0, -1, 0}, {62, -1, 62},
            {18, -1, -1, -1, -1, 18}, {10, -1, -1, 10}, {10, -1, -1, 9}};
        int flight = Due.file(x, 0, 0, 1);
        for (int[] row : rows) {
            int[] span = {Integer.MAX_VALUE, Integer.MIN_VALUE};
            walk(row, 1, row[0], 0, mine, span);
            boolean can = span[0] <= span[1];
            int n = x.told(6);
            due.is("T3: a WAY, or none", Due.fly(x, flight, row), can ? n + 1 : Due.KIND);
            if (can) {
                due.is("T3: the least of row " + n, x.miles(flight, 5, 0, 0), span[0]);
                due.is("T3: the most of row " + n, x.miles(flight, 5, 0, 1), span[1]);
                due.is("T3: MIDDLE of row " + n, x.miles(flight, 5, 0, 2), (span[0] + span[1]) / 2);
            }
        }
    }

    private static boolean has(int[] cells, int cell) {
        for (int c : cells) {
            if (c == cell) {
                return true;
            }
        }
        return false;
    }

    private static void walk(int[] row, int i, int at, int miles, int[] mine, int[] span) {
        if (i == row.length) {
            span[0] = Math.min(span[0], miles);
            span[1] = Math.max(span[1], miles);
            return;
        }
        for (int next = 0; next < 64; next++) {
            boolean side = Math.abs(at % 8 - next % 8) + Math.abs(at / 8 - next / 8) == 1;
            if (side && (row[i] == -1 || row[i] == next)) {
                int more = (has(mine, at) ? 5 : 0) + (has(mine, next) ? 5 : 0);
                walk(row, i + 1, next, miles + more, mine, span);
            }
        }
    }

    private static int feeOf(int factor, int rate, int... cells) {
        SkyFees x = Due.twoLands(0);
        Due.law(x, 2, 0, String.valueOf(factor));
        x.rate(1, rate);
        x.rate(2, 0);
        return x.bill(Due.file(x, 0, cells));
    }

    private static void unitsAndFeeAreCut() {
        due.is("T3: UNITS: 10 times 9 / 100 is 0", feeOf(9, 9999, 0, 1), 0);
        due.is("T3: UNITS: 10 times 10 / 100 is 1", feeOf(10, 9999, 0, 1), 99);
        due.is("T3: UNITS: 10 times 19 / 100 is 1", feeOf(19, 100, 0, 1), 1);
        due.is("T3: FEE: 10 times 9 / 100 is 0", feeOf(100, 9, 0, 1), 0);
        due.is("T3: FEE: 10 times 10 / 100 is 1", feeOf(100, 10, 0, 1), 1);
        due.is("T3: FEE: 10 times 19 / 100 is 1", feeOf(100, 19, 0, 1), 1);
        due.is("T3: FEE at RATE 0", feeOf(9999, 0, 0, 1), 0);
        due.is("T3: the greatest FEE", feeOf(9999, 9999, 0, 1, 0, 1, 0, 1, 0, 1, 0, 1, 0, 1), 10998 * 9999 / 100);
    }

    private static int worth(String text) {
        SkyFees x = new SkyFees();
        x.airline(0);
        x.plane(3, 0, 50);
        int law = Due.law(x, 0, 0, text);
        return law < 0 ? law : x.says(law, 0, -1, -1);
    }

    private static void numbersOfDigits() {
        due.is("T4: 1 digit", worth("0"), 0);
        due.is("T4: 4 digits", worth("9999"), 9999);
        due.is("T4: 4 digits, 0 ahead", worth("0009"), 9);
        due.is("T4: 5 digits", worth("10000"), -14);
        due.is("T4: 5 digits, 0 ahead", worth("00009"), -14);
        due.is("T4: 4 digits and 4 more", worth("9999+9999"), 19998);
    }

    private static void openAtOnce() {
        due.is("T4: 5 (", worth("(((((7)))))"), 7);
        due.is("T4: 6 (", worth("((((((7))))))"), -15);
        due.is("T4: 5 !", worth("!!!!!7"), 0);
        due.is("T4: 6 !", worth("!!!!!!7"), -15);
        due.is("T4: 5 of both", worth("!(!(!0))"), 1);
        due.is("T4: 6 of both", worth("!(!(!(0)))"), -15);
        due.is("T4: ! is closed with what it stands ahead of", worth("!!!!!0+!!!!!0"), 2);
        due.is("T4: 5, closed, 5 anew", worth("(((((1)))))+(((((2)))))"), 3);
        due.is("T4: 4 open, one closed, one more", worth("((((!0+!0+(1)))))"), 3);
        due.is("T4: 4 open, one closed, two more", worth("((((!0+!(1)))))"), -18);
        due.is("T4: ! ahead of ( stays open within", worth("!((((!1))))"), -15);
    }

    private static void intsThatWrap() {
        due.is("T4: 2048 times 1024 times 1024", worth("2048*1024*1024"), Integer.MIN_VALUE);
        due.is("T4: one less goes round", worth("2048*1024*1024-1"), Integer.MAX_VALUE);
        due.is("T4: one more than the greatest", worth("(2048*1024*1024-1)+1"), Integer.MIN_VALUE);
        due.is("T4: to 0", worth("4096*1024*1024"), 0);
        due.is("T4: the least by -1", worth("2048*1024*1024/(0-1)"), Integer.MIN_VALUE);
        due.is("T4: less than 0 is true", worth("!(2048*1024*1024)"), 0);
        due.is("T4: compared as they are", worth("2048*1024*1024<0"), 1);
        due.is("T4: without a difference that wraps", worth("2048*1024*1024<1"), 1);
        due.is("T4: quotients are cut, below 0, too", worth("(0-7)/4"), -1);
        due.is("T4: by one below 0", worth("7/(0-4)"), -1);
        due.is("T4: both below 0", worth("(0-7)/(0-4)"), 1);
    }

    private static void byZero() {
        due.is("T4: / by 0 is 0", worth("7/0"), 0);
        due.is("T4: 0 / 0", worth("0/0"), 0);
        due.is("T4: / by what comes to 0", worth("7/(w-50)"), 0);
        due.is("T4: it goes on then", worth("7/0*5+3"), 3);
        due.is("T4: the least by 0", worth("2048*1024*1024/0"), 0);
    }

    private static void oneOrZero() {
        String[] texts = {"7|0", "0|7", "7|9", "0|0", "7&9", "7&0", "0&7", "0&0", "3<4", "4<4", "5<4", "4=4", "4=5",
            "5>4", "4>4", "3>4", "!0", "!7", "!!7", "(0-1)|0", "(0-1)&(0-1)"};
        int[] want = {1, 1, 1, 0, 1, 0, 0, 0, 1, 0, 0, 1, 0, 1, 0, 0, 1, 0, 1, 1, 1};
        for (int i = 0; i < texts.length; i++) {
            due.is("T4: 1 or 0: " + texts[i], worth(texts[i]), want[i]);
        }
    }

    private static void allIsWorkedOut() {
        due.is("T4: behind a true |", worth("1|7/0"), 1);
        due.is("T4: behind a false &", worth("0&7/0"), 0);
        due.is("T4: | is weaker than &", worth("1|0&0"), 1);
        due.is("T4: & is weaker than =", worth("2&2=2"), 1);
        due.is("T4: = is weaker than +", worth("2=1+1"), 1);
        due.is("T4: + is weaker than *", worth("1+2*3"), 7);
        due.is("T4: from left", worth("10-4-3"), 3);
        due.is("T4: from left, *", worth("10/4*3"), 6);
    }

    private static void namesWithout() {
        SkyFees x = Due.twoLands(0);
        x.go(3);
        int flight = Due.file(x, 0, 3, 4, 12);
        x.go(4);
        due.is("T4: m without a FLIGHT", x.says(Due.law(x, 0, 0, "m"), 0, -1, 1), 0);
        due.is("T4: m of all LANDS", x.says(0, 0, flight, 1), 15);
        due.is("T4: d without a FLIGHT", x.says(Due.law(x, 0, 0, "d"), 0, -1, 1), 7);
        due.is("T4: d of a FLIGHT", x.says(1, 0, flight, 1), 3);
        due.is("T4: l without a LAND", x.says(Due.law(x, 0, 0, "l"), 0, flight, -1), -1);
        due.is("T4: l, the first LAND", x.says(2, 0, flight, 0), 0);
        due.is("T4: l, the last LAND", x.says(2, 0, flight, 7), 7);
    }

    private static void toldLastForThatDay() {
        SkyFees x = new SkyFees();
        Due.law(x, 0, 50, "1");
        Due.law(x, 0, 50, "2");
        due.is("T4: told last for the same day", x.force(0, 50), 1);
        Due.law(x, 0, 10, "3");
        due.is("T4: told last for a day ahead", x.force(0, 50), 2);
        due.is("T4: for that day", x.force(0, 10), 2);
        due.is("T4: not for the day ahead of it", x.force(0, 9), Due.NONE);
        Due.law(x, 0, 60, "4");
        due.is("T4: told last, for a later day", x.force(0, 59), 2);
        due.is("T4: on that day", x.force(0, 60), 3);
        Due.law(x, 1, 0, "5");
        due.is("T4: of another USE", x.force(0, 60), 3);
    }

    private static void withoutALaw() {
        SkyFees x = Due.twoLands(0);
        int flight = Due.file(x, 0, 0, 1);
        // by 1, 2, 3 or by 17, 18, 19, and more
        Due.fly(x, flight, 9, -1, -1, -1, 11);
        due.is("T4: without FREE and BASE: owed, as FILED", x.bill(flight), 10);
        Due.law(x, 1, 0, "1");
        due.is("T4: without GAP: the least", x.right(flight), -10);
        Due.law(x, 3, 0, "1");
        due.is("T4: with it: the most", x.right(flight), 30);
    }

    private static int billedBy(int use, String text) {
        SkyFees x = Due.twoLands(0);
        int flight = Due.file(x, 0, 0, 1);
        Due.fly(x, flight, 9, -1, -1, -1, 11);
        Due.law(x, 1, 0, "1");
        Due.law(x, 3, 0, "1");
        Due.law(x, use, 0, text);
        return x.bill(flight);
    }

    private static void freeBaseGapOtherNumbers() {
        due.is("T4: FREE 0", billedBy(0, "0"), 30);
        due.is("T4: FREE 1", billedBy(0, "1"), 0);
        due.is("T4: FREE 2", billedBy(0, "2"), 0);
        due.is("T4: FREE -1", billedBy(0, "0-1"), 0);
        due.is("T4: FREE in another LAND", billedBy(0, "l=2"), 30);
        due.is("T4: BASE 0", billedBy(1, "0"), 10);
        due.is("T4: BASE 1", billedBy(1, "1"), 30);
        due.is("T4: BASE 2", billedBy(1, "2"), 30);
        due.is("T4: BASE -1", billedBy(1, "0-1"), 30);
        due.is("T4: GAP 0", billedBy(3, "0"), 0);
        due.is("T4: GAP 1", billedBy(3, "1"), 30);
        due.is("T4: GAP 2", billedBy(3, "2"), 15);
        due.is("T4: GAP 3", billedBy(3, "3"), 15);
        due.is("T4: GAP -1", billedBy(3, "0-1"), 15);
        due.is("T4: GAP of the least int", billedBy(3, "2048*1024*1024"), 15);
    }

    private static void askedForTheDayOfFiling() {
        SkyFees x = Due.twoLands(0);
        Due.law(x, 0, 5, "1");
        x.go(4);
        int ahead = Due.file(x, 0, 0, 1);
        x.go(1);
        int then = Due.file(x, 0, 0, 1);
        x.go(50);
        due.is("T4: FILED a day ahead of the LAW", x.bill(ahead), 10);
        due.is("T4: FILED on its first day", x.bill(then), 0);
        Due.law(x, 2, 5, "300");
        due.is("T4: FACTOR, too, ahead of the LAW", x.right(ahead), 0);
        Due.law(x, 0, 0, "0");
        due.is("T4: FACTOR on its first day", x.right(then), 30);
    }
}
