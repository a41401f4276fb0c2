/** Promises 8 to 16: airlines and planes. */
public final class AirlineTest {
    private static final Due due = new Due();

    public static void main(String[] args) {
        airline();
        plane();
        as();
        planeIs();
        earn();
        owes();
        pay();
        end();
        endWithTies();
        endWithMoreOver();
        due.end();
    }

    private static void airline() {
        SkyFees x = new SkyFees();
        due.is("8: coin -1", x.airline(-1), Due.BEYOND);
        due.is("8: coin 1000000", x.airline(1000000), Due.BEYOND);
        for (int i = 0; i < 8; i++) {
            due.is("8: airline " + i, x.airline(i == 7 ? 999999 : i), i);
        }
        due.is("8: a ninth", x.airline(5), Due.FULL);
        due.is("8: BEYOND ahead of FULL", x.airline(-1), Due.BEYOND);
        due.is("13: coin of 3", x.coin(3), 3);
        due.is("13: coin of 7", x.coin(7), 999999);
        due.is("13: coin of 8", x.coin(8), Due.BEYOND);
        due.is("13: coin of -1", x.coin(-1), Due.BEYOND);
        due.is("8: told", x.told(0), 8);
    }

    private static void plane() {
        SkyFees x = new SkyFees();
        due.is("9: no airline", x.plane(0, 0, 5), Due.BEYOND);
        x.airline(0);
        x.airline(0);
        due.is("9: first", x.plane(5, 1, 600), 0);
        due.is("9: weight 0", x.plane(0, 0, 0), Due.BEYOND);
        due.is("9: weight 601", x.plane(0, 0, 601), Due.BEYOND);
        due.is("9: kind -1", x.plane(-1, 0, 5), Due.BEYOND);
        due.is("9: kind 6", x.plane(6, 0, 5), Due.BEYOND);
        due.is("9: airline 2", x.plane(0, 2, 5), Due.BEYOND);
        due.is("9: airline -1", x.plane(0, -1, 5), Due.BEYOND);
        for (int i = 1; i < 12; i++) {
            due.is("9: plane " + i, x.plane(i % 6, 0, i), i);
        }
        due.is("9: a thirteenth", x.plane(0, 0, 5), Due.FULL);
        x.end(1);
        due.is("9: STATE ahead of FULL", x.plane(0, 1, 5), Due.STATE);
        due.is("9: BEYOND ahead of STATE", x.plane(0, 1, 0), Due.BEYOND);
        due.is("9: told", x.told(2), 12);
    }

    private static void as() {
        SkyFees x = new SkyFees();
        x.airline(0);
        for (int k = 0; k < 6; k++) {
            x.plane(k, 0, 10 + k);
        }
        String[] under = {"0", "01", "012", "03", "04", "035"};
        for (int p = 0; p < 6; p++) {
            for (int k = 0; k < 6; k++) {
                due.is("10: as(" + p + ", " + k + ")", x.as(p, k), under[p].indexOf('0' + k) >= 0 ? 10 + p : Due.KIND);
            }
        }
        due.is("10: kind 6", x.as(0, 6), Due.BEYOND);
        due.is("10: kind -1", x.as(0, -1), Due.BEYOND);
        due.is("10: plane 6", x.as(6, 0), Due.BEYOND);
        due.is("10: plane -1", x.as(-1, 0), Due.BEYOND);
    }

    private static void planeIs() {
        SkyFees x = new SkyFees();
        x.airline(0);
        x.airline(0);
        x.plane(4, 1, 1);
        x.plane(0, 0, 600);
        x.plane(0, 0, 2);
        due.is("11: kind", x.planeIs(0, 0), 4);
        due.is("11: airline", x.planeIs(0, 1), 1);
        due.is("11: weight", x.planeIs(1, 2), 600);
        due.is("11: factor of 1", x.planeIs(0, 3), 14);
        due.is("11: factor of 600", x.planeIs(1, 3), 346);
        due.is("11: factor of 2, a square", x.planeIs(2, 3), 20);
        Due.law(x, 2, 10, "d*100+m+l");
        due.is("11: ahead of the law", x.planeIs(2, 3), 20);
        x.go(10);
        due.is("11: by the law", x.planeIs(2, 3), 999);
        x.go(91);
        due.is("11: not above 9999", x.planeIs(2, 3), 9999);
        Due.law(x, 2, 0, "0-5");
        due.is("11: not below 0", x.planeIs(2, 3), 0);
        due.is("11: what 4", x.planeIs(0, 4), Due.BEYOND);
        due.is("11: what -1", x.planeIs(0, -1), Due.BEYOND);
        due.is("11: plane 3", x.planeIs(3, 0), Due.BEYOND);
        due.is("11: plane -1", x.planeIs(-1, 0), Due.BEYOND);
    }

    private static void earn() {
        SkyFees x = new SkyFees();
        x.airline(900000);
        due.is("12: n 1", x.earn(0, 1), 900001);
        due.is("12: to the brim", x.earn(0, 99998), 999999);
        due.is("12: above", x.earn(0, 1), Due.FULL);
        due.is("12: n 0", x.earn(0, 0), Due.BEYOND);
        due.is("12: n 100000", x.earn(0, 100000), Due.BEYOND);
        due.is("12: airline 1", x.earn(1, 1), Due.BEYOND);
        due.is("12: airline -1", x.earn(-1, 1), Due.BEYOND);
        due.is("12: coin stays", x.coin(0), 999999);
        x.end(0);
        due.is("12: STATE ahead of FULL", x.earn(0, 1), Due.STATE);
        due.is("12: BEYOND ahead of STATE", x.earn(0, 0), Due.BEYOND);
        due.is("12: told", x.told(11), 999999);
    }

    /** 10 miles in land 1, then 5, 5 over its border, 10 in land 2: FEES of 15 and 15. */
    private static SkyFees billedOnce(int coin) {
        SkyFees x = Due.twoLands(coin);
        x.bill(Due.file(x, 0, 2, 3, 4, 5));
        return x;
    }

    private static void owes() {
        SkyFees x = billedOnce(0);
        x.airline(5);
        due.is("14: land 1", x.owes(0, 1), 15);
        due.is("14: land 2", x.owes(0, 2), 15);
        due.is("14: land 3", x.owes(0, 3), 0);
        due.is("14: all", x.owes(0, -1), 30);
        due.is("14: another airline", x.owes(1, -1), 0);
        due.is("14: land 8", x.owes(0, 8), Due.BEYOND);
        due.is("14: land -2", x.owes(0, -2), Due.BEYOND);
        due.is("14: airline 2", x.owes(2, 0), Due.BEYOND);
        due.is("14: airline -1", x.owes(-1, 0), Due.BEYOND);
    }

    private static void pay() {
        SkyFees x = billedOnce(18);
        due.is("15: owes less", x.pay(0, 1, 16), Due.STATE);
        due.is("15: all to one", x.pay(0, 1, 15), 0);
        due.is("15: coin", x.coin(0), 3);
        due.is("15: less coin", x.pay(0, 2, 4), Due.NONE);
        due.is("15: STATE ahead of NONE", x.pay(0, 2, 16), Due.STATE);
        due.is("15: the rest of the coin", x.pay(0, 2, 3), 12);
        due.is("15: coin is gone", x.coin(0), 0);
        due.is("15: n 0", x.pay(0, 2, 0), Due.BEYOND);
        due.is("15: n 100000", x.pay(0, 2, 100000), Due.BEYOND);
        due.is("15: n -1", x.pay(0, 2, -1), Due.BEYOND);
        due.is("15: land -1", x.pay(0, -1, 1), Due.BEYOND);
        due.is("15: land 8", x.pay(0, 8, 1), Due.BEYOND);
        due.is("15: airline 1", x.pay(1, 2, 1), Due.BEYOND);
        due.is("15: told", x.told(9), 12);
        due.is("15: income stays", x.landIs(1, 3), 15);
    }

    private static void end() {
        SkyFees x = billedOnce(100);
        due.is("16: enough", x.end(0), 0);
        due.is("16: coin that is left", x.coin(0), 70);
        due.is("16: owes nothing", x.owes(0, -1), 0);
        due.is("16: again", x.end(0), Due.STATE);
        due.is("16: airline 1", x.end(1), Due.BEYOND);
        due.is("16: airline -1", x.end(-1), Due.BEYOND);
        due.is("16: told", x.told(1), 1);
        due.is("16: none lost", x.told(10), 0);
        x = billedOnce(30);
        due.is("16: just enough", x.end(0), 0);
        due.is("16: no coin left", x.coin(0), 0);
        x = billedOnce(0);
        due.is("16: no coin", x.end(0), 30);
        due.is("16: lost of 2", x.landIs(2, 7), 15);
        due.is("16: nothing to pay", x.pay(0, 1, 1), Due.STATE);
    }

    /** Where remainders are the same, the least lands have what is left over. */
    private static void endWithTies() {
        SkyFees x = billedOnce(29);
        due.is("16: one short", x.end(0), 1);
        due.is("16: the least land has more", x.landIs(1, 7), 0);
        due.is("16: the other less", x.landIs(2, 7), 1);
        x = Due.twoLands(8);
        x.cell(0, 3);
        x.bill(Due.file(x, 0, 0, 1, 2, 3, 4));
        due.is("16: owed 1", x.owes(0, 1), 30);
        due.is("16: owed 2", x.owes(0, 2), 5);
        due.is("16: owed 3", x.owes(0, 3), 5);
        x.image();
        // 8 * 30 / 40 = 6, 8 * 5 / 40 = 1 each
        parted(x, 32, 24, 4, 4);
        x.earn(0, 1);
        // 9 * 30 / 40 = 6 and 30 over, 9 * 5 / 40 = 1 and 5 over
        parted(x, 31, 23, 4, 4);
        x.earn(0, 3);
        // 11 * 30 / 40 = 8 and 10 over, 11 * 5 / 40 = 1 and 15 over
        parted(x, 29, 22, 3, 4);
        x.earn(0, 4);
        // 12 * 30 / 40 = 9, 12 * 5 / 40 = 1 and 20 over
        parted(x, 28, 21, 3, 4);
    }

    /** Three lands are owed 15 each: 17 of coin leave 2 over, 16 leave 1. */
    private static void endWithMoreOver() {
        for (int coin = 15; coin <= 18; coin++) {
            SkyFees x = new SkyFees();
            for (int c = 0; c < 6; c++) {
                x.cell(c, c / 2 * 3);
            }
            x.airline(5);
            x.airline(coin);
            x.plane(0, 1, 50);
            x.bill(Due.file(x, 0, 0, 1, 2, 3));
            x.bill(Due.file(x, 0, 4, 5, 4));
            x.pay(1, 6, 5);
            x.earn(1, 5);
            due.is("14: owed 0", x.owes(1, 0), 15);
            due.is("14: owed 3", x.owes(1, 3), 15);
            due.is("14: owed 6", x.owes(1, 6), 15);
            due.is("16: lost by " + coin, x.end(1), 45 - coin);
            due.is("16: lost 0 by " + coin, x.landIs(0, 7), coin < 16 ? 10 : 9);
            due.is("16: lost 3 by " + coin, x.landIs(3, 7), coin < 17 ? 10 : 9);
            due.is("16: lost 6 by " + coin, x.landIs(6, 7), coin < 18 ? 10 : 9);
            due.is("16: no coin left of " + coin, x.coin(1), 0);
            due.is("16: the other airline has its own", x.coin(0), 5);
        }
    }

    /** What is lost by the end, of lands 1, 2, 3; all is put back then. */
    private static void parted(SkyFees x, int all, int first, int second, int third) {
        due.is("16: lost by " + x.coin(0), x.end(0), all);
        due.is("16: lost 1 of " + all, x.landIs(1, 7), first);
        due.is("16: lost 2 of " + all, x.landIs(2, 7), second);
        due.is("16: lost 3 of " + all, x.landIs(3, 7), third);
        x.restore();
    }
}
