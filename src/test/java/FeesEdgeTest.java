/** Boundary cases of the terms 5 to 7 (T5 .. T7); each sentence that names one has a function of its own. */
public final class FeesEdgeTest {
    private static final Due due = new Due();

    public static void main(String[] args) {
        byTheRateThen();
        doubledIsTheSame();
        doubledOfNothing();
        doubledStaysZero();
        moreIsOwed();
        lessIsOwedLess();
        restComesToCoin();
        restComesToCoinAbove();
        eachLandByItself();
        incomeStays();
        aTwentiethMore();
        eachThatIsOwed();
        notAboveRateAndATenth();
        notBelowRateLessATenth();
        withinTheRates();
        restOfTheYearAhead();
        partedIfThereIsEnough();
        partedByRemainders();
        partedOfGreatNumbers();
        coinThatIsLeftStays();
        cutForEachCell();
        greatestCost();
        fewestStepsThenFirst();
        voicesGoRound();
        traceOfTheLongest();
        due.end();
    }

    private static void byTheRateThen() {
        SkyFees x = Due.twoLands(0);
        int flight = Due.file(x, 0, 0, 1);
        x.rate(1, 300);
        due.is("T5: by the RATE then", x.bill(flight), 30);
        x.rate(1, 9999);
        due.is("T5: PUT RIGHT by the RATE of then", x.right(flight), 0);
        due.is("T5: beside, by the RATE of then", x.beside(1, false), 30);
        x.rate(1, 0);
        int free = Due.file(x, 0, 1, 2);
        due.is("T5: by RATE 0", x.bill(free), 0);
        x.rate(1, 100);
        due.is("T5: PUT RIGHT by RATE 0", x.right(free), 0);
    }

    private static int second(int plane, int days, int... cells) {
        SkyFees x = Due.twoLands(0);
        x.plane(0, 0, 50);
        x.bill(Due.file(x, 0, 0, 1, 2));
        if (days > 0) {
            x.go(days);
        }
        int flight = Due.file(x, plane, cells);
        x.bill(flight);
        return x.flightIs(flight, 6);
    }

    private static void doubledIsTheSame() {
        due.is("T5: DOUBLED: the same PLANE, DAY, ROW", second(0, 0, 0, 1, 2), 1);
        due.is("T5: not DOUBLED: another PLANE", second(1, 0, 0, 1, 2), 0);
        due.is("T5: not DOUBLED: another DAY", second(0, 1, 0, 1, 2), 0);
        due.is("T5: not DOUBLED: a shorter ROW", second(0, 0, 0, 1), 0);
        due.is("T5: not DOUBLED: a longer ROW", second(0, 0, 0, 1, 2, 3), 0);
        due.is("T5: not DOUBLED: another last CELL", second(0, 0, 0, 1, 9), 0);
        due.is("T5: not DOUBLED: another first CELL", second(0, 0, 2, 1, 2), 0);
        due.is("T5: not DOUBLED: another CELL between", second(0, 0, 0, 8, 9), 0);
        SkyFees x = Due.twoLands(0);
        int first = Due.file(x, 0, 0, 1);
        int later = Due.file(x, 0, 0, 1);
        x.go(1);
        due.is("T5: FILED later, BILLED first", x.bill(later), 10);
        x.go(150);
        due.is("T5: FILED on the same DAY, BILLED on another", x.bill(first), 0);
        due.is("T5: that is DOUBLED", x.flightIs(first, 6), 1);
        due.is("T5: the other isn't", x.flightIs(later, 6), 0);
    }

    /** Also where the first had no fees at all, or was flown otherwise. */
    private static void doubledOfNothing() {
        SkyFees x = Due.twoLands(0);
        int first = Due.file(x, 0, 0, 1);
        int later = Due.file(x, 0, 0, 1);
        int third = Due.file(x, 0, 0, 1);
        Due.law(x, 0, 0, "1");
        due.is("T5: FREE", x.bill(first), 0);
        Due.law(x, 0, 0, "0");
        due.is("T5: DOUBLED by one that was FREE", x.bill(later), 0);
        Due.fly(x, third, 1, 2, 3);
        Due.law(x, 1, 0, "1");
        due.is("T5: DOUBLED by its ROW as FILED", x.bill(third), 0);
        due.is("T5: DOUBLED by one that is DOUBLED, or not", x.flightIs(third, 6), 1);
    }

    private static void doubledStaysZero() {
        SkyFees x = Due.twoLands(0);
        Due.file(x, 0, 0, 1);
        Due.file(x, 0, 0, 1);
        x.bill(0);
        x.bill(1);
        Due.law(x, 1, 0, "1");
        Due.fly(x, 1, 0, 1, 2, 3);
        due.is("T5: of one that was DOUBLED they stay 0", x.right(1), 0);
        due.is("T5: its FEES", x.flightIs(1, 7), 0);
        due.is("T5: nothing of it is owed", x.owes(0, 1), 10);
        due.is("T5: nor beside", x.beside(1, true), 0);
    }

    /** Billed with 20 for land 1; then put right by what was flown. */
    private static SkyFees billed(int coin, int paid) {
        SkyFees x = Due.twoLands(coin);
        x.bill(Due.file(x, 0, 1, 2, 3));
        if (paid > 0) {
            x.pay(0, 1, paid);
        }
        Due.law(x, 1, 0, "1");
        return x;
    }

    private static void moreIsOwed() {
        SkyFees x = billed(50, 20);
        Due.fly(x, 0, 0, 1, 2, 3);
        due.is("T5: what is more", x.right(0), 10);
        due.is("T5: is owed", x.owes(0, 1), 10);
        due.is("T5: COIN stays", x.coin(0), 30);
    }

    private static void lessIsOwedLess() {
        SkyFees x = billed(50, 5);
        Due.fly(x, 0, 2, 3);
        due.is("T5: what is less", x.right(0), -10);
        due.is("T5: is owed less", x.owes(0, 1), 5);
        due.is("T5: COIN stays where more is owed", x.coin(0), 45);
        x = billed(50, 10);
        Due.fly(x, 0, 2, 3);
        x.right(0);
        due.is("T5: just so much is owed", x.owes(0, 1), 0);
        due.is("T5: COIN stays where just so much is owed", x.coin(0), 40);
    }

    private static void restComesToCoin() {
        SkyFees x = billed(50, 11);
        Due.fly(x, 0, 2, 3);
        due.is("T5: less by 10, 9 are owed", x.right(0), -10);
        due.is("T5: nothing is owed", x.owes(0, 1), 0);
        due.is("T5: 1 comes to COIN", x.coin(0), 40);
        x = billed(20, 20);
        Due.fly(x, 0, 40, 41);
        due.is("T5: all is less", x.right(0), -20);
        due.is("T5: all comes to COIN", x.coin(0), 20);
        x = billed(50, 0);
        x.go(100);
        Due.fly(x, 0, 40, 41);
        x.right(0);
        due.is("T5: the twentieth stays owed", x.owes(0, 1), 1);
        due.is("T5: COIN stays", x.coin(0), 50);
    }

    /** The document names no cut here, and no finding: COIN may be above what earn() lets it be. */
    private static void restComesToCoinAbove() {
        SkyFees x = billed(999999, 20);
        due.is("T5: COIN is full again", x.earn(0, 20), 999999);
        Due.fly(x, 0, 40, 41);
        due.is("T5: all that was paid comes back", x.right(0), -20);
        due.is("T5: none of it is cut", x.coin(0), 1000019);
        due.is("T5: earn() is FULL then", x.earn(0, 1), Due.FULL);
        Due.fly(x, 0, 1, 2, 3);
        x.right(0);
        due.is("T5: it can be paid again", x.pay(0, 1, 20), 0);
        due.is("T5: and is 999999", x.coin(0), 999999);
    }

    private static void eachLandByItself() {
        SkyFees x = Due.twoLands(15);
        x.bill(Due.file(x, 0, 2, 3, 4));
        x.pay(0, 1, 15);
        Due.law(x, 1, 0, "1");
        Due.fly(x, 0, 4, 5, 6);
        due.is("T5: 15 less for one, 15 more for the other", x.right(0), 0);
        due.is("T5: owed to the one", x.owes(0, 1), 0);
        due.is("T5: owed to the other", x.owes(0, 2), 20);
        due.is("T5: COIN from the one", x.coin(0), 15);
    }

    private static void incomeStays() {
        SkyFees x = billed(0, 0);
        Due.fly(x, 0, 40, 41);
        x.right(0);
        due.is("T5: INCOME stays, of less", x.landIs(1, 3), 20);
        x.go(100);
        Due.fly(x, 0, 0, 1, 2, 3);
        due.is("T5: more in the next YEAR", x.right(0), 30);
        due.is("T5: INCOME stays, of more", x.landIs(1, 3), 0);
        due.is("T5: REST is of what was BILLED", x.landIs(1, 4), -20);
    }

    private static int owedAfterAYear(int owed) {
        SkyFees x = Due.twoLands(99999);
        Due.law(x, 2, 0, "100");
        x.rate(1, 10 * owed);
        x.bill(Due.file(x, 0, 0, 1));
        due.is("T5: owed at first", x.owes(0, 1), owed);
        x.go(100);
        return x.owes(0, 1);
    }

    private static void aTwentiethMore() {
        due.is("T5: a twentieth of 0", owedAfterAYear(0), 0);
        due.is("T5: a twentieth of 1, cut", owedAfterAYear(1), 1);
        due.is("T5: a twentieth of 19, cut", owedAfterAYear(19), 19);
        due.is("T5: a twentieth of 20", owedAfterAYear(20), 21);
        due.is("T5: a twentieth of 39, cut", owedAfterAYear(39), 40);
        due.is("T5: a twentieth of 40", owedAfterAYear(40), 42);
        due.is("T5: a twentieth of 999", owedAfterAYear(999), 1048);
    }

    private static void eachThatIsOwed() {
        SkyFees x = Due.twoLands(0);
        x.airline(0);
        x.plane(0, 1, 50);
        x.bill(Due.file(x, 0, 2, 3, 4, 5));
        x.bill(Due.file(x, 1, 0, 1, 2));
        x.go(100);
        due.is("T5: 15 and 15 are no 30", x.owes(0, -1), 30);
        due.is("T5: 20 of another AIRLINE", x.owes(1, -1), 21);
        due.is("T5: owed to LAND 1", x.landIs(1, 6), 36);
    }

    /** The rate after a year of a land that wants as much as can be, or as little. */
    private static int rateAfterAYear(int rate, int cost, int foretold) {
        SkyFees x = new SkyFees();
        x.rate(6, rate);
        x.land(6, cost, foretold);
        x.go(100);
        return x.landIs(6, 2);
    }

    private static void notAboveRateAndATenth() {
        int[][] up = {{0, 1}, {1, 2}, {9, 10}, {10, 12}, {19, 21}, {20, 23}, {100, 111}, {999, 1099}, {9089, 9998},
            {9090, 9999}};
        for (int[] u : up) {
            due.is("T5: up from " + u[0], rateAfterAYear(u[0], 9999, 1), u[1]);
        }
        due.is("T5: just as much as it may be", rateAfterAYear(100, 111, 100), 111);
        due.is("T5: one less", rateAfterAYear(100, 110, 100), 110);
        due.is("T5: one more", rateAfterAYear(100, 112, 100), 111);
    }

    private static void notBelowRateLessATenth() {
        int[][] down = {{9999, 8999}, {1000, 899}, {100, 89}, {20, 17}, {19, 17}, {10, 8}, {9, 8}, {2, 1}, {1, 0}, {0, 0}};
        for (int[] d : down) {
            due.is("T5: down from " + d[0], rateAfterAYear(d[0], 0, 9999), d[1]);
        }
        due.is("T5: just as little as it may be", rateAfterAYear(100, 89, 100), 89);
        due.is("T5: one more", rateAfterAYear(100, 90, 100), 90);
        due.is("T5: one less", rateAfterAYear(100, 88, 100), 89);
        due.is("T5: cut, 100 times 909 / 1000", rateAfterAYear(100, 909, 1000), 90);
    }

    private static void withinTheRates() {
        due.is("T5: not above 9999, from 9091", rateAfterAYear(9091, 9999, 1), 9999);
        due.is("T5: not above 9999, from 9999", rateAfterAYear(9999, 9999, 1), 9999);
        due.is("T5: not below 0, from 1", rateAfterAYear(1, 0, 1), 0);
        due.is("T5: not below 0, from 0", rateAfterAYear(0, 0, 1), 0);
        SkyFees x = Due.twoLands(0);
        x.rate(1, 100);
        x.bill(Due.file(x, 0, 0, 1));
        x.go(100);
        x.rate(1, 0);
        x.go(100);
        due.is("T5: REST of -10 ahead, not below 0", x.landIs(1, 2), 0);
        due.is("T5: FORETOLD of the most", rateAfterAYear(5, 9999, 9999), 6);
    }

    /** Land 1 wants 1000 in year 0 and 0 then: what was too little comes to the rate at the end of year 1 alone. */
    private static void restOfTheYearAhead() {
        SkyFees x = new SkyFees();
        x.land(1, 1000, 1000);
        x.go(100);
        due.is("T5: 0, if there is none", x.landIs(1, 2), 100);
        due.is("T5: REST of YEAR 0", x.landIs(1, 4), 1000);
        x.land(1, 50, 1000);
        x.rate(1, 100);
        x.go(100);
        due.is("T5: COST and the REST of YEAR 0", x.landIs(1, 2), 105);
        due.is("T5: REST of YEAR 1", x.landIs(1, 4), 50);
        x.rate(1, 10);
        x.go(100);
        due.is("T5: COST and the REST of YEAR 1", x.landIs(1, 2), 10);
        x.land(1, 0, 1000);
        x.go(99);
        due.is("T5: REST of the YEAR that ended last, to its last day", x.landIs(1, 4), 50);
        x.go(1);
        due.is("T5: REST of YEAR 3", x.landIs(1, 4), 0);
        due.is("T5: RATE by the REST of YEAR 2", x.landIs(1, 2), 8);
    }

    /** Land 1 is owed 15, land 2 is owed 15. */
    private static SkyFees owing(int coin) {
        SkyFees x = Due.twoLands(coin);
        x.bill(Due.file(x, 0, 2, 3, 4, 5));
        return x;
    }

    private static void partedIfThereIsEnough() {
        due.is("T5: more than enough: LOST", owing(31).end(0), 0);
        due.is("T5: just enough: LOST", owing(30).end(0), 0);
        due.is("T5: one too few: LOST", owing(29).end(0), 1);
        due.is("T5: one alone: LOST", owing(1).end(0), 29);
        due.is("T5: none: LOST", owing(0).end(0), 30);
        for (int coin = 0; coin <= 31; coin++) {
            SkyFees x = owing(coin);
            x.end(0);
            // of two the same the first has the one that is left over
            due.is("T5: LOST of the first by " + coin, x.landIs(1, 7), Math.max(0, 15 - (coin + 1) / 2));
            due.is("T5: LOST of the second by " + coin, x.landIs(2, 7), Math.max(0, 15 - coin / 2));
            due.is("T5: it owes nothing then", x.owes(0, -1), 0);
            due.is("T5: COIN that is left by " + coin, x.coin(0), Math.max(0, coin - 30));
        }
    }

    /** Land 0 is owed 5, land 1 is owed 10, and so on to 40: 180 in all. */
    private static SkyFees owingEight(int coin) {
        SkyFees x = new SkyFees();
        x.airline(coin);
        x.plane(0, 0, 50);
        for (int l = 0; l < 8; l++) {
            x.cell(8 * l, l);
            x.rate(l, 100 * (l + 1));
            x.bill(Due.file(x, 0, 8 * l, 8 * l + 1));
        }
        return x;
    }

    private static void partedByRemainders() {
        for (int coin = 0; coin <= 181; coin++) {
            int[] owed = new int[8];
            int[] paid = new int[8];
            int left = coin;
            for (int l = 0; l < 8; l++) {
                owed[l] = 5 * (l + 1);
                paid[l] = coin >= 180 ? owed[l] : coin * owed[l] / 180;
                left -= paid[l];
            }
            boolean[] had = new boolean[8];
            for (; left > 0 && coin < 180; left--) {
                int best = -1;
                for (int l = 0; l < 8; l++) {
                    if (!had[l] && (best < 0 || coin * owed[l] % 180 > coin * owed[best] % 180)) {
                        best = l;
                    }
                }
                had[best] = true;
                paid[best]++;
            }
            SkyFees x = owingEight(coin);
            due.is("T5: PARTED among 8: LOST by " + coin, x.end(0), Math.max(0, 180 - coin));
            for (int l = 0; l < 8; l++) {
                due.is("T5: PARTED among 8: LOST of " + l + " by " + coin, x.landIs(l, 7), owed[l] - paid[l]);
            }
        }
    }

    /** COIN times what is owed is far above every int. */
    private static void partedOfGreatNumbers() {
        SkyFees x = Due.twoLands(999999);
        Due.law(x, 2, 0, "9999");
        x.rate(1, 9999);
        x.rate(2, 9999);
        x.bill(Due.file(x, 0, 0, 1, 2, 3, 2, 1, 0, 1, 2, 3, 2, 1));
        x.bill(Due.file(x, 0, 5, 6, 7, 6, 5));
        int first = x.owes(0, 1);
        int second = x.owes(0, 2);
        due.is("T5: owed 110 miles", first, 1099690);
        due.is("T5: owed 40 miles", second, 3999 * 9999 / 100);
        long all = first + second;
        long one = 999999L * first / all;
        long other = 999999L * second / all;
        boolean toFirst = 999999L * first % all >= 999999L * second % all;
        if (one + other < 999999L) {
            one += toFirst ? 1 : 0;
            other += toFirst ? 0 : 1;
        }
        due.is("T5: LOST of great numbers", x.end(0), all - 999999);
        due.is("T5: LOST of the one", x.landIs(1, 7), first - one);
        due.is("T5: LOST of the other", x.landIs(2, 7), second - other);
    }

    private static void coinThatIsLeftStays() {
        SkyFees x = owing(100);
        x.end(0);
        due.is("T5: COIN that is left stays", x.coin(0), 70);
        due.is("T5: in all COIN, too", x.told(11), 70);
        x.go(200);
        due.is("T5: and is not more later", x.coin(0), 70);
    }

    private static SkyFees way(int rate, int fuel) {
        SkyFees x = Due.twoLands(0);
        x.rate(1, rate);
        x.fuel(fuel);
        return x;
    }

    private static void cutForEachCell() {
        due.is("T6: 5 times 100 times 19 / 10000 is 0", way(19, 0).cheapest(0, 0, 1, -1), 0);
        due.is("T6: 5 times 100 times 20 / 10000 is 1, twice", way(20, 0).cheapest(0, 0, 1, -1), 2);
        due.is("T6: 5 times 100 times 39 / 10000 is 1, twice", way(39, 0).cheapest(0, 0, 1, -1), 2);
        due.is("T6: 5 times 100 times 40 / 10000 is 2, twice", way(40, 0).cheapest(0, 0, 1, -1), 4);
        due.is("T6: to a CELL of none once", way(39, 0).cheapest(0, 0, 8, -1), 1);
        due.is("T6: FUEL for each step", way(0, 7).cheapest(0, 0, 3, -1), 21);
        due.is("T6: GAIN is cut, too", way(39, 7).gain(0, 0, 1, 1), 2);
        due.is("T6: FUEL 0 and RATE 0", way(0, 0).cheapest(0, 0, 3, -1), 0);
    }

    /** One way through walls, all of it over the dearest land. */
    private static void greatestCost() {
        SkyFees x = new SkyFees();
        x.airline(0);
        x.plane(0, 0, 50);
        Due.law(x, 2, 0, "9999");
        x.rate(0, 9999);
        x.fuel(999);
        for (int c = 0; c < 64; c++) {
            x.cell(c, 0);
            x.shut(c, c / 8 % 2 == 1 && c % 8 != (c / 8 % 4 == 1 ? 7 : 0));
        }
        int toll = 5 * 9999 * 9999 / 10000;
        due.is("T6: steps of the longest way", x.cheapest(0, 0, 56, -2), 35);
        due.is("T6: its cost", x.cheapest(0, 0, 56, -1), 35 * (999 + 2 * toll));
        due.is("T6: its GAIN", x.gain(0, 0, 56, 0), 35 * 2 * toll);
        due.is("T6: its last CELL", x.cheapest(0, 0, 56, 35), 56);
        due.is("T6: it has no more", x.cheapest(0, 0, 56, 36), Due.NONE);
    }

    private static void fewestStepsThenFirst() {
        SkyFees x = new SkyFees();
        x.airline(0);
        x.plane(0, 0, 50);
        x.fuel(0);
        due.is("T6: at no cost the fewest steps", x.cheapest(0, 0, 63, -2), 14);
        int[] first = {0, 1, 2, 3, 4, 5, 6, 7, 15, 23, 31, 39, 47, 55, 63};
        int[] back = {63, 55, 47, 39, 31, 23, 15, 7, 6, 5, 4, 3, 2, 1, 0};
        for (int i = 0; i < 15; i++) {
            due.is("T6: the first as a row of CELLS, " + i, x.cheapest(0, 0, 63, i), first[i]);
            due.is("T6: the first as a row, and back, " + i, x.cheapest(0, 63, 0, i), back[i]);
        }
        // 27 to 29: by 28 for 2 of toll and 2 of FUEL, or round it for 4 of FUEL
        x.cell(28, 2);
        x.rate(2, 20);
        x.fuel(1);
        due.is("T6: as dear, the fewest steps", x.cheapest(0, 27, 29, -2), 2);
        x.rate(2, 40);
        due.is("T6: dearer, more steps", x.cheapest(0, 27, 29, -2), 4);
        due.is("T6: round it by the first", x.cheapest(0, 27, 29, 1), 19);
        x.shut(19, true);
        due.is("T6: or the other", x.cheapest(0, 27, 29, 1), 35);
    }

    private static void voicesGoRound() {
        SkyFees x = new SkyFees();
        x.airline(0);
        for (int k = 0; k < 6; k++) {
            x.plane(k, 0, 600);
        }
        int most = Integer.MAX_VALUE;
        int least = Integer.MIN_VALUE;
        due.is("T7: lift", x.voice(0, 0, most), least + 599);
        due.is("T7: hum", x.voice(0, 1, most), 2 * (least + 599));
        due.is("T7: turn", x.voice(5, 2, least), least - 600 - 5);
        due.is("T7: tell of a LINER", x.voice(1, 3, least), 2 * (most + 601) ^ (most - 1));
        due.is("T7: turn of a CARGO", x.voice(2, 2, least), (least - 2) * 3);
        due.is("T7: lift of a CARGO", x.voice(2, 0, most), most + 600 + 600 + 2);
        due.is("T7: hum of a SMALL one", x.voice(3, 1, most), 2 * (most + 600) - (most - 3));
        due.is("T7: tell of a STATED one", x.voice(4, 3, least), (least - 4) - (2 * (least + 600) ^ (least - 4)));
    }

    /** No voice has more than ten bodies, so the first 40 are all of them. */
    private static void traceOfTheLongest() {
        SkyFees x = new SkyFees();
        x.airline(0);
        x.plane(5, 0, 1);
        x.voice(0, 3, 0);
        int[] bodies = {13, 61, 40, 11, 10, 60, 12, 10, 60, 12};
        due.is("T7: the longest", x.told(12), bodies.length);
        for (int i = 0; i < 41; i++) {
            due.is("T7: body " + i, x.trace(i), i < bodies.length ? bodies[i] : Due.NONE);
        }
    }
}
