/** Promises 34 to 42: voices, sheets, images, counts. */
public final class VoiceSheetImageTest {
    private static final Due due = new Due();

    public static void main(String[] args) {
        voices();
        trace();
        sheet();
        put();
        move();
        image();
        imageOfAll();
        shorterAfterImage();
        told();
        found();
        due.end();
    }

    private static void voice(SkyFees x, int plane, int act, int at, int want, int... bodies) {
        String name = "voice(" + plane + ", " + act + ", " + at + ")";
        due.is("34: " + name, x.voice(plane, act, at), want);
        due.is("35: bodies of " + name, x.told(12), bodies.length);
        for (int i = 0; i < bodies.length; i++) {
            due.is("35: body " + i + " of " + name, x.trace(i), bodies[i]);
        }
        due.is("35: no more of " + name, x.trace(bodies.length), Due.NONE);
    }

    private static void voices() {
        SkyFees x = new SkyFees();
        x.airline(0);
        for (int k = 0; k < 6; k++) {
            x.plane(k, 0, 10 * (k + 1));
        }
        voice(x, 0, 0, 5, 15, 10);
        voice(x, 0, 1, 5, 30, 11, 10);
        voice(x, 0, 2, 5, 5, 12);
        voice(x, 0, 3, 5, 30 ^ 5, 13, 11, 10, 12);
        voice(x, 1, 0, 5, 26, 20, 10);
        voice(x, 1, 1, 5, 52, 11, 20, 10);
        voice(x, 1, 2, 5, 4, 12);
        voice(x, 1, 3, 5, 50 ^ 3, 21, 13, 11, 20, 10, 12);
        voice(x, 2, 0, 5, 67, 31, 20, 10);
        voice(x, 2, 1, 5, 134, 11, 31, 20, 10);
        voice(x, 2, 2, 5, 9, 30, 12);
        voice(x, 2, 3, 5, 132 ^ 6, 21, 13, 11, 31, 20, 10, 30, 12);
        voice(x, 3, 1, 5, 88, 40, 11, 10, 12);
        voice(x, 3, 3, 5, 88 ^ 2, 13, 40, 11, 10, 12, 12);
        voice(x, 4, 3, 5, 1 - (110 ^ 1), 50, 12, 13, 11, 10, 12);
        voice(x, 5, 2, 5, 5 - 60 - 5, 60, 12);
        voice(x, 5, 1, 5, 130 + 60 + 65, 61, 40, 11, 10, 60, 12, 10);
        voice(x, 5, 3, 5, 255 ^ -60, 13, 61, 40, 11, 10, 60, 12, 10, 60, 12);
        voice(x, 0, 1, Integer.MAX_VALUE, 2 * (Integer.MAX_VALUE + 10), 11, 10);
        voice(x, 5, 0, Integer.MIN_VALUE, Integer.MIN_VALUE + 60, 10);
        due.is("34: it may be as low as a finding", x.voice(0, 2, -1000003), -1000003);
        due.is("34: and is none", x.found(3), 0);
        due.is("34: act 4", x.voice(0, 4, 0), Due.BEYOND);
        due.is("34: act -1", x.voice(0, -1, 0), Due.BEYOND);
        due.is("34: plane 6", x.voice(6, 0, 0), Due.BEYOND);
        due.is("34: plane -1", x.voice(-1, 0, 0), Due.BEYOND);
        due.is("35: the trace stays", x.trace(0), 12);
    }

    private static void trace() {
        SkyFees x = new SkyFees();
        due.is("35: none at first", x.trace(0), Due.NONE);
        x.airline(0);
        x.plane(0, 0, 1);
        x.voice(0, 3, 0);
        x.voice(0, 0, 0);
        due.is("35: of the latest", x.trace(0), 10);
        due.is("35: alone", x.trace(1), Due.NONE);
        due.is("35: -1", x.trace(-1), Due.NONE);
        due.is("35: 40", x.trace(40), Due.NONE);
        due.is("35: a great one", x.trace(Integer.MAX_VALUE), Due.NONE);
    }

    private static void sheet() {
        SkyFees x = new SkyFees();
        due.is("36: sheet 4", x.sheet(4, 8, 1), Due.BEYOND);
        due.is("36: sheet -1", x.sheet(-1, 8, 1), Due.BEYOND);
        due.is("36: bits 64", x.sheet(0, 64, 1), Due.BEYOND);
        due.is("36: bits 24", x.sheet(0, 24, 1), Due.BEYOND);
        due.is("36: bits -8", x.sheet(0, -8, 1), Due.BEYOND);
        due.is("36: bits ahead of n", x.sheet(0, 7, -1), Due.BEYOND);
        due.is("36: n -1", x.sheet(0, 8, -1), Due.STATE);
        due.is("36: n 25", x.sheet(0, 8, 25), Due.BEYOND);
        due.is("36: still missing", x.put(0, 0, 1), Due.NONE);
        due.is("36: n 24", x.sheet(0, 8, 24), 1);
        due.is("36: the last number", x.put(0, 23, 5), 1);
        due.is("36: n 0", x.sheet(1, 32, 0), 1);
        due.is("36: no number", x.put(1, 0, 1), Due.BEYOND);
        due.is("36: all 0 anew", x.sheet(0, 16, 24), 1);
        due.is("36: all of land 0", x.block(0, 0), 24);
        due.is("36: cells", x.landIs(0, 5), 24);
        due.is("36: missing again, n -1", x.sheet(0, 0, -1), 1);
        due.is("36: it is missing", x.put(0, 0, 1), Due.NONE);
        due.is("36: missing again, n 99", x.sheet(1, 0, 99), 1);
        due.is("36: it is missing, too", x.block(1, 0), Due.NONE);
        due.is("36: sheet 4, bits 0", x.sheet(4, 0, 0), Due.BEYOND);
    }

    /** Number 0 of a sheet, seen as the land of a cell. */
    private static int seen(SkyFees x, int bits, int v) {
        x.sheet(0, bits, 1);
        x.put(0, 0, v);
        int n = x.block(0, 0);
        return n == 1 ? x.cell(0, -1) : n;
    }

    private static void put() {
        SkyFees x = new SkyFees();
        due.is("37: sheet 4", x.put(4, 0, 0), Due.BEYOND);
        due.is("37: sheet -1", x.put(-1, 0, 0), Due.BEYOND);
        due.is("37: missing ahead of no number", x.put(0, 99, 0), Due.NONE);
        x.sheet(0, 8, 2);
        due.is("37: number 2", x.put(0, 2, 0), Due.BEYOND);
        due.is("37: number -1", x.put(0, -1, 0), Due.BEYOND);
        due.is("37: 8 bits", seen(x, 8, 256 + 5), 5);
        due.is("37: 8 bits, below 0", seen(x, 8, 255), -1);
        due.is("37: 16 bits", seen(x, 16, 65536 * 3 + 6), 6);
        due.is("37: 16 bits, below 0", seen(x, 16, 65535), -1);
        due.is("37: 16 bits, more than 8", seen(x, 16, 256 + 5), Due.KIND);
        due.is("37: 32 bits", seen(x, 32, 7), 7);
        due.is("37: 32 bits, below 0", seen(x, 32, -1), -1);
        due.is("37: 32 bits, more than 16", seen(x, 32, 65536 + 5), Due.KIND);
    }

    private static void moved(String name, SkyFees x, int sheet, int... want) {
        int n = x.block(sheet, 0);
        due.is("38: " + name, n, want.length);
        for (int i = 0; i < want.length; i++) {
            due.is("38: " + name + ", " + i, x.cell(i, -1), want[i]);
        }
    }

    private static void move() {
        SkyFees x = new SkyFees();
        Due.write(x, 0, 8, 0, 1, 2, 3, 4);
        Due.write(x, 1, 8, 7, 7, 7);
        Due.write(x, 2, 16, 7, 7, 7);
        due.is("38: up within one", x.move(0, 0, 0, 1, 4), 4);
        moved("up", x, 0, 0, 0, 1, 2, 3);
        Due.write(x, 0, 8, 0, 1, 2, 3, 4);
        due.is("38: down within one", x.move(0, 1, 0, 0, 4), 4);
        moved("down", x, 0, 1, 2, 3, 4, 4);
        due.is("38: to another", x.move(0, 1, 1, 1, 2), 2);
        moved("another", x, 1, 7, 2, 3);
        due.is("38: none", x.move(0, 5, 1, 3, 0), 0);
        due.is("38: sheet 4", x.move(4, 0, 0, 0, 0), Due.BEYOND);
        due.is("38: other -1", x.move(0, 0, -1, 0, 0), Due.BEYOND);
        due.is("38: one is missing", x.move(3, 0, 0, 0, 0), Due.NONE);
        due.is("38: the other is missing", x.move(0, 0, 3, 0, 0), Due.NONE);
        due.is("38: NONE ahead of the last BEYOND", x.move(0, -1, 3, 0, 0), Due.NONE);
        due.is("38: unlike bits", x.move(0, 0, 2, 0, 1), Due.KIND);
        due.is("38: KIND ahead of the last BEYOND", x.move(0, -1, 2, 0, 1), Due.KIND);
        due.is("38: n -1", x.move(0, 0, 1, 0, -1), Due.BEYOND);
        due.is("38: i -1", x.move(0, -1, 1, 0, 1), Due.BEYOND);
        due.is("38: j -1", x.move(0, 0, 1, -1, 1), Due.BEYOND);
        due.is("38: not so many", x.move(0, 3, 1, 0, 3), Due.BEYOND);
        due.is("38: no room", x.move(0, 0, 1, 1, 3), Due.BEYOND);
        due.is("38: i 6", x.move(0, 6, 1, 0, 0), Due.BEYOND);
        due.is("38: far beyond", x.move(0, Integer.MAX_VALUE, 1, 0, Integer.MAX_VALUE), Due.BEYOND);
        due.is("38: far beyond, j", x.move(0, 0, 1, Integer.MAX_VALUE, 2), Due.BEYOND);
        moved("nothing changed", x, 1, 7, 2, 3);
    }

    private static void image() {
        SkyFees x = new SkyFees();
        due.is("40: none", x.restore(), Due.NONE);
        x.go(4);
        due.is("39: first", x.image(), 1);
        x.go(3);
        due.is("40: back", x.restore(), 4);
        due.is("40: the day", x.told(7), 4);
        x.go(1);
        due.is("40: it stays", x.restore(), 4);
        x.go(10);
        due.is("39: in place of the one ahead", x.image(), 2);
        x.go(10);
        due.is("40: the new one", x.restore(), 14);
        due.is("39: how often is not put back", x.image(), 3);
        due.is("40: found is not put back", x.found(2), 1);
        Due.write(x, 0, 8, 1, 2);
        x.restore();
        due.is("40: sheets are not put back", x.block(0, 0), 2);
        x.airline(0);
        x.plane(0, 0, 1);
        x.image();
        x.voice(0, 1, 0);
        x.restore();
        due.is("40: the trace is not put back", x.told(12), 2);
    }

    /** All that can be asked, as one row of numbers. */
    private static int[] all(SkyFees x) {
        java.util.ArrayList<Integer> told = new java.util.ArrayList<>();
        for (int l = 0; l < 8; l++) {
            for (int what = 0; what < 8; what++) {
                told.add(x.landIs(l, what));
            }
            for (int a = 0; a < 3; a++) {
                told.add(x.owes(a, l));
            }
            for (int f = 0; f < 3; f++) {
                told.add(x.fee(f, l));
                told.add(x.miles(f, l, 3000, 2));
            }
            told.add(x.beside(l, true));
            told.add(x.beside(l, false));
        }
        for (int what = 0; what < 12; what++) {
            told.add(x.told(what));
        }
        for (int f = 0; f < 3; f++) {
            for (int what = 0; what < 8; what++) {
                told.add(x.flightIs(f, what));
                told.add(x.row(f, -1, what));
                told.add(x.row(f, 3000, what));
            }
        }
        for (int p = 0; p < 3; p++) {
            for (int what = 0; what < 4; what++) {
                told.add(x.planeIs(p, what));
            }
            told.add(x.coin(p));
            told.add(x.cheapest(p, 0, 12, -1));
            told.add(x.cheapest(p, 0, 12, 2));
        }
        for (int use = 0; use < 4; use++) {
            told.add(x.force(use, 3000));
            told.add(x.says(use, 0, -1, 3));
        }
        return told.stream().mapToInt(Integer::intValue).toArray();
    }

    private static SkyFees busy() {
        SkyFees x = Due.twoLands(60);
        x.airline(500);
        x.plane(5, 1, 80);
        x.land(2, 900, 800);
        Due.law(x, 1, 50, "1");
        Due.law(x, 3, 0, "2");
        Due.law(x, 0, 0, "l=3");
        Due.file(x, 0, 2, 3, 4);
        Due.file(x, 1, 3, 4, 5);
        Due.fly(x, 0, 9, -1, -1, 3);
        x.bill(0);
        x.go(120);
        x.shut(1, true);
        x.fuel(33);
        Due.feed(x, "w+");
        return x;
    }

    private static void disturb(SkyFees x) {
        x.cell(3, 6);
        x.cell(12, 5);
        x.shut(1, false);
        x.shut(2, true);
        x.fuel(1);
        x.rate(1, 9);
        x.land(2, 5, 5);
        Due.feed(x, "1");
        x.law(2, 0);
        Due.law(x, 0, 0, "1");
        x.airline(7);
        x.plane(1, 0, 5);
        Due.file(x, 1, 0, 1);
        Due.fly(x, 0, 2, 3, 4);
        Due.fly(x, 1, 2, 3, 4);
        x.bill(1);
        x.right(0);
        x.pay(0, 2, 1);
        x.earn(1, 5);
        x.go(200);
        x.end(0);
    }

    private static void imageOfAll() {
        SkyFees x = busy();
        x.image();
        int[] before = all(x);
        disturb(x);
        int[] between = all(x);
        due.is("39: all was changed", java.util.Arrays.equals(before, between) ? 1 : 0, 0);
        x.restore();
        int[] after = all(x);
        for (int i = 0; i < before.length; i++) {
            due.is("40: all is back, " + i, after[i], before[i]);
        }
        x.feed('1', 1);
        due.is("40: the tape is back", x.law(3, 0), 3);
        due.is("40: and reads w+1", x.says(3, 0, -1, -1), 51);
    }

    /** What comes after an image is put back stands in the place of longer things, and keeps nothing of them. */
    private static void shorterAfterImage() {
        SkyFees x = Due.twoLands(0);
        x.image();
        Due.law(x, 0, 0, "1+2*3+4*5+6");
        Due.file(x, 0, 0, 1, 2, 3, 4);
        Due.fly(x, 0, 0, 1, 2, 3, 4);
        x.bill(0);
        x.restore();
        due.is("40: a shorter law", Due.law(x, 3, 0, "5"), 0);
        due.is("40: says what it says", x.says(0, 0, -1, -1), 5);
        due.is("40: of its own use", x.force(0, 0), Due.NONE);
        due.is("40: a shorter row", Due.file(x, 0, 0, 1), 0);
        due.is("40: of two cells", x.row(0, -1, 2), Due.NONE);
        due.is("40: not flown", x.row(0, 3000, 0), Due.NONE);
        due.is("40: the same row", Due.file(x, 0, 0, 1), 1);
        due.is("40: not billed", x.flightIs(0, 4), 0);
        due.is("40: billed", x.bill(0), 10);
        due.is("40: doubled", x.bill(1), 0);
        due.is("40: flown", Due.fly(x, 0, 5, 6), 1);
        due.is("40: of two numbers", x.row(0, 0, 2), Due.NONE);
    }

    private static void told() {
        SkyFees x = busy();
        x.airline(3);
        x.end(2);
        x.voice(0, 3, 1);
        // 15 + 5 of FEES, then 15 / 20 = 0 and 5 / 20 = 0 more
        int[] want = {3, 1, 2, 3, 2, 1, 1, 120, 2, 20, 0, 563, 4};
        for (int what = 0; what <= 12; what++) {
            due.is("41: told(" + what + ")", x.told(what), want[what]);
        }
        due.is("41: -1", x.told(-1), Due.BEYOND);
        due.is("41: 13", x.told(13), Due.BEYOND);
        SkyFees y = Due.twoLands(5);
        y.bill(Due.file(y, 0, 1, 2));
        y.end(0);
        due.is("41: lost", y.told(10), 5);
        due.is("41: ended", y.told(1), 1);
        due.is("41: owed", y.told(9), 0);
    }

    private static void found() {
        SkyFees x = new SkyFees();
        due.is("42: k 0", x.found(0), Due.BEYOND);
        due.is("42: k 6", x.found(6), Due.BEYOND);
        due.is("42: k -1", x.found(-1), Due.BEYOND);
        due.is("42: counted, too", x.found(1), 3);
        x.restore();
        due.is("42: NONE", x.found(2), 1);
        x.sheet(0, 8, -1);
        x.sheet(0, 8, -1);
        due.is("42: STATE", x.found(3), 2);
        for (int i = 0; i < 9; i++) {
            x.airline(0);
        }
        due.is("42: FULL", x.found(4), 1);
        x.plane(0, 0, 1);
        x.as(0, 1);
        due.is("42: KIND", x.found(5), 1);
        due.is("42: BEYOND as it was", x.found(1), 3);
    }
}
