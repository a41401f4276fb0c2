/** Boundary cases of promises 34 to 42: voices, sheets, images, counts. */
public final class SheetEdgeTest {
    private static final Due due = new Due();
    private static final Edge fresh = new Edge(due, Edge::fresh);
    private static final Edge some = new Edge(due, Edge::some);
    private static final Edge full = new Edge(due, Edge::full);

    public static void main(String[] args) {
        voice();
        trace();
        sheetBeyond();
        sheetState();
        sheetMissing();
        putBeyond();
        putLowestBits();
        moveBeyondAndNone();
        moveKind();
        moveWhatDoesNotStand();
        moveAsTheyAllWere();
        moveBetweenAllSheets();
        image();
        imageBut();
        allIsAsTheImageHasIt();
        imageOfWhatIsEmptyAndFull();
        restore();
        told();
        found();
        due.end();
    }

    private static void voice() {
        some.range("34: BEYOND: no such PLANE", 0, 2, (x, v) -> x.voice(v, 0, 0));
        some.range("34: BEYOND: VOICES 0 .. 3", 0, 3, (x, v) -> x.voice(0, v, 0));
        full.range("34: BEYOND: 12 PLANES", 0, 11, (x, v) -> x.voice(v, 0, 0));
        fresh.refused("34: BEYOND: there is no PLANE", Due.BEYOND, x -> x.voice(0, 0, 0));
        for (int k = 1; k <= 5; k++) {
            int low = Due.LOW - k;
            some.answers("34: any number, as low as a finding", low, x -> x.voice(0, 2, low));
        }
        some.answers("34: of an AIRLINE that has ENDED", (5 - 2) * 3, x -> x.voice(2, 2, 5));
        some.answers("34: the greatest int goes round", Integer.MIN_VALUE + 49, x -> x.voice(0, 0, Integer.MAX_VALUE));
        some.answers("34: the least int goes round", Integer.MAX_VALUE, x -> x.voice(1, 2, Integer.MIN_VALUE + 80));
    }

    private static void trace() {
        fresh.refused("35: NONE: no voice() yet", Due.NONE, x -> x.trace(0));
        some.answers("35: the first", 13, x -> x.trace(0));
        some.answers("35: the last", 12, x -> x.trace(3));
        some.refused("35: NONE: one behind the last", Due.NONE, x -> x.trace(4));
        some.refused("35: NONE: one ahead of the first", Due.NONE, x -> x.trace(-1));
        for (int i : new int[] {39, 40, 41, Integer.MAX_VALUE, Integer.MIN_VALUE}) {
            some.refused("35: NONE: " + i, Due.NONE, x -> x.trace(i));
        }
        some.answers("35: of the latest voice() alone", 1, x -> {
            x.voice(0, 0, 0);
            return x.told(12);
        });
    }

    private static void sheetBeyond() {
        some.range("36: BEYOND: SHEETS 0 .. 3", 0, 3, (x, v) -> x.sheet(v, 8, 1));
        some.range("36: BEYOND: SHEETS 0 .. 3, to be missing", 0, 3, (x, v) -> x.sheet(v, 0, 0));
        int[] bits = {-8, -1, 1, 7, 9, 15, 17, 24, 31, 33, 64, Integer.MIN_VALUE, Integer.MAX_VALUE};
        for (int b : bits) {
            some.refused("36: BEYOND: " + b + " bits", Due.BEYOND, x -> x.sheet(0, b, 3));
        }
        for (int b : new int[] {8, 16, 32}) {
            some.answers("36: at most 24 numbers, " + b + " bits", 1, x -> x.sheet(0, b, 24));
            some.refused("36: BEYOND: 25 numbers, " + b + " bits", Due.BEYOND, x -> x.sheet(0, b, 25));
            some.answers("36: no numbers, " + b + " bits", 1, x -> x.sheet(0, b, 0));
        }
        some.refused("36: BEYOND: the greatest int of numbers", Due.BEYOND, x -> x.sheet(0, 8, Integer.MAX_VALUE));
    }

    private static void sheetState() {
        some.refused("36: STATE: n is below 0", Due.STATE, x -> x.sheet(0, 8, -1));
        some.refused("36: STATE: n is the least int", Due.STATE, x -> x.sheet(2, 32, Integer.MIN_VALUE));
        some.refused("36: BEYOND of the SHEET ahead of STATE", Due.BEYOND, x -> x.sheet(4, 8, -1));
        some.refused("36: BEYOND of bits ahead of STATE", Due.BEYOND, x -> x.sheet(0, 9, -1));
    }

    private static void sheetMissing() {
        for (int n : new int[] {0, 24, 25, -1, Integer.MIN_VALUE, Integer.MAX_VALUE}) {
            some.answers("36: missing, n " + n + " doesn't matter", 1, x -> x.sheet(0, 0, n));
            some.answers("36: one that was missing, n " + n, 1, x -> x.sheet(2, 0, n));
        }
        SkyFees x = Edge.some();
        x.sheet(0, 0, 24);
        due.is("36: it is missing", x.put(0, 0, 0), Due.NONE);
        x.sheet(0, 8, 3);
        due.is("36: all 0 then", x.block(0, 0), 3);
        due.is("36: three 0", x.landIs(0, 5), 3);
        x.sheet(3, 8, 24);
        due.is("36: all 0 anew", x.block(3, 40), 24);
        due.is("36: 24 more 0", x.landIs(0, 5), 27);
    }

    private static void putBeyond() {
        some.range("37: BEYOND: SHEETS 0 .. 3", 0, 3, (x, v) -> x.put(v, 0, 0));
        some.range("37: BEYOND: no such number, of 3", 0, 2, (x, v) -> x.put(0, v, 0));
        some.range("37: BEYOND: no such number, of 24", 0, 23, (x, v) -> x.put(3, v, 0));
        some.refused("37: NONE: it is missing", Due.NONE, x -> x.put(2, 0, 0));
        some.refused("37: NONE ahead of BEYOND of the number", Due.NONE, x -> x.put(2, -1, 0));
        some.refused("37: NONE ahead of BEYOND of number 24", Due.NONE, x -> x.put(2, 24, 0));
        some.refused("37: BEYOND of the SHEET, whatever the number", Due.BEYOND, x -> x.put(-1, 99, 0));
        Edge empty = new Edge(due, () -> {
            SkyFees x = Edge.some();
            x.sheet(0, 16, 0);
            return x;
        });
        empty.refused("37: BEYOND: a SHEET without numbers", Due.BEYOND, x -> x.put(0, 0, 0));
    }

    private static int seen(int bits, int v) {
        SkyFees x = new SkyFees();
        x.sheet(0, bits, 1);
        due.is("37: 1", x.put(0, 0, v), 1);
        int n = x.block(0, 0);
        return n == 1 ? x.cell(0, -1) : n;
    }

    private static void putLowestBits() {
        due.is("37: 8 bits: 256 is 0", seen(8, 256), 0);
        due.is("37: 8 bits: 255 is -1", seen(8, 255), -1);
        due.is("37: 8 bits: 254 is -2", seen(8, 254), Due.KIND);
        due.is("37: 8 bits: -249 is 7", seen(8, -249), 7);
        due.is("37: 8 bits: the least int is 0", seen(8, Integer.MIN_VALUE), 0);
        due.is("37: 8 bits: the greatest int is -1", seen(8, Integer.MAX_VALUE), -1);
        due.is("37: 8 bits: 127 stays", seen(8, 127), Due.KIND);
        due.is("37: 16 bits: 65536 is 0", seen(16, 65536), 0);
        due.is("37: 16 bits: 65535 is -1", seen(16, 65535), -1);
        due.is("37: 16 bits: 256 stays", seen(16, 256), Due.KIND);
        due.is("37: 16 bits: -65529 is 7", seen(16, -65529), 7);
        due.is("37: 16 bits: the greatest int is -1", seen(16, Integer.MAX_VALUE), -1);
        due.is("37: 32 bits: 65536 stays", seen(32, 65536), Due.KIND);
        due.is("37: 32 bits: 65535 stays", seen(32, 65535), Due.KIND);
        due.is("37: 32 bits: -1 stays", seen(32, -1), -1);
        due.is("37: 32 bits: the least int stays", seen(32, Integer.MIN_VALUE), Due.KIND);
    }

    private static void moveBeyondAndNone() {
        some.range("38: BEYOND: no such SHEET", 0, 3, (x, v) -> x.move(v, 0, 0, 0, 0));
        some.range("38: BEYOND: no such other SHEET", 0, 3, (x, v) -> x.move(0, 0, v, 0, 0));
        some.refused("38: NONE: the first is missing", Due.NONE, x -> x.move(2, 0, 0, 0, 0));
        some.refused("38: NONE: the other is missing", Due.NONE, x -> x.move(0, 0, 2, 0, 0));
        some.refused("38: NONE: the same one, missing", Due.NONE, x -> x.move(2, 0, 2, 0, 0));
        some.refused("38: BEYOND of the SHEET ahead of NONE", Due.BEYOND, x -> x.move(2, 0, 4, 0, 0));
        some.refused("38: BEYOND of the first ahead of NONE", Due.BEYOND, x -> x.move(-1, 0, 2, 0, 0));
        some.refused("38: NONE ahead of BEYOND of n", Due.NONE, x -> x.move(0, 0, 2, 0, -1));
        some.refused("38: NONE ahead of KIND", Due.NONE, x -> x.move(2, 0, 1, 0, 1));
    }

    private static void moveKind() {
        some.refused("38: KIND: 8 and 16 bits", Due.KIND, x -> x.move(0, 0, 1, 0, 1));
        some.refused("38: KIND: 16 and 8 bits", Due.KIND, x -> x.move(1, 0, 0, 0, 1));
        some.refused("38: KIND: also of no numbers", Due.KIND, x -> x.move(0, 0, 1, 0, 0));
        some.refused("38: KIND ahead of BEYOND of i", Due.KIND, x -> x.move(0, -1, 1, 0, 1));
        some.refused("38: KIND ahead of BEYOND of j", Due.KIND, x -> x.move(0, 0, 1, 3, 1));
        some.refused("38: KIND ahead of BEYOND of n", Due.KIND, x -> x.move(0, 0, 1, 0, -1));
        Edge wide = new Edge(due, () -> {
            SkyFees x = Edge.some();
            x.sheet(2, 32, 3);
            return x;
        });
        wide.refused("38: KIND: 32 and 16 bits", Due.KIND, x -> x.move(2, 0, 1, 0, 1));
        wide.refused("38: KIND: 8 and 32 bits", Due.KIND, x -> x.move(0, 0, 2, 0, 1));
        wide.answers("38: 32 and 32 bits", 2, x -> x.move(2, 0, 2, 1, 2));
    }

    /** Sheet 0 has 3 numbers, sheet 3 has 24. */
    private static void moveWhatDoesNotStand() {
        int least = Integer.MIN_VALUE;
        int most = Integer.MAX_VALUE;
        int[][] bad = {{0, 0, -1}, {-1, 0, 1}, {0, -1, 1}, {0, 0, 4}, {1, 0, 3}, {3, 0, 1}, {0, 22, 3}, {0, 24, 1},
            {4, 0, 0}, {0, 25, 0}, {-1, 0, 0}, {0, -1, 0}, {least, 0, 0}, {0, least, 0}, {0, 0, least},
            {most, 0, 0}, {0, most, 0}, {0, 0, most}, {most, most, most}, {1, 0, most}, {0, 1, most}, {most, 0, 2}};
        for (int[] b : bad) {
            String name = "38: BEYOND: i " + b[0] + ", j " + b[1] + ", n " + b[2];
            some.refused(name, Due.BEYOND, x -> x.move(0, b[0], 3, b[1], b[2]));
        }
        some.answers("38: all 3", 3, x -> x.move(0, 0, 3, 21, 3));
        some.answers("38: the last one to the last place", 1, x -> x.move(0, 2, 3, 23, 1));
        some.answers("38: none, behind the last ones", 0, x -> x.move(0, 3, 3, 24, 0));
        some.answers("38: none", 0, x -> x.move(0, 0, 3, 0, 0));
        some.answers("38: all 24 to themselves", 24, x -> x.move(3, 0, 3, 0, 24));
        some.refused("38: BEYOND: 24 do not stand in 3", Due.BEYOND, x -> x.move(3, 0, 0, 0, 24));
    }

    private static void numbersAre(String name, SkyFees x, int... want) {
        due.is(name, x.block(0, 0), want.length);
        for (int i = 0; i < want.length; i++) {
            due.is(name + ", number " + i, x.cell(i, -1), want[i]);
        }
    }

    private static void moveAsTheyAllWere() {
        SkyFees x = new SkyFees();
        Due.write(x, 0, 16, 1, 2, 3, 4, 5);
        due.is("38: up by 1", x.move(0, 0, 0, 1, 4), 4);
        numbersAre("38: up, as they all were", x, 1, 1, 2, 3, 4);
        due.is("38: down by 2", x.move(0, 2, 0, 0, 3), 3);
        numbersAre("38: down, as they all were", x, 2, 3, 4, 3, 4);
        due.is("38: to where they are", x.move(0, 1, 0, 1, 4), 4);
        numbersAre("38: the same", x, 2, 3, 4, 3, 4);
    }

    /** Sheet s has the numbers s, s + 1, s + 2, s + 3; two of each come to each. */
    private static void moveBetweenAllSheets() {
        for (int s = 0; s < 4; s++) {
            for (int o = 0; o < 4; o++) {
                SkyFees x = new SkyFees();
                for (int k = 0; k < 4; k++) {
                    Due.write(x, k, 8, k, k + 1, k + 2, k + 3);
                }
                due.is("38: from " + s + " to " + o, x.move(s, 2, o, 1, 2), 2);
                for (int k = 0; k < 4; k++) {
                    x.block(k, 8 * k);
                    for (int i = 0; i < 4; i++) {
                        int want = k == o && (i == 1 || i == 2) ? s + i + 1 : k + i;
                        due.is("38: number " + i + " of " + k + " by " + s + " to " + o, x.cell(8 * k + i, -1), want);
                    }
                }
            }
        }
    }

    private static void image() {
        fresh.answers("39: how often that was done, first", 1, SkyFees::image);
        some.answers("39: how often that was done, in place of one ahead", 2, SkyFees::image);
        some.answers("39: the new one is restored", 13, x -> {
            x.image();
            x.go(1);
            return x.restore();
        });
    }

    /** Sheets, the trace, found() and how often stay as they are now. */
    private static void imageBut() {
        SkyFees x = Edge.some();
        x.image();
        x.sheet(0, 0, 0);
        Due.write(x, 1, 8, 4);
        x.voice(0, 0, 0);
        x.cell(64, 0);
        x.restore();
        due.is("39: but SHEETS, one that is missing now", x.put(0, 0, 0), Due.NONE);
        due.is("39: but SHEETS, one that is another now", x.block(1, 63), 1);
        due.is("39: but THE TRACE", x.told(12), 1);
        due.is("39: but THE TRACE's first", x.trace(0), 10);
        due.is("39: but what found() tells", x.found(1), 1);
        due.is("39: but how often this was done", x.image(), 3);
    }

    /** All that an image keeps is changed here. */
    private static void disturb(SkyFees x) {
        for (int c = 0; c < 64; c += 3) {
            x.cell(c, c % 8);
            x.shut(c, true);
        }
        for (int l = 0; l < 8; l++) {
            x.land(l, 77 + l, 99);
            x.rate(l, 700 + l);
        }
        x.fuel(1);
        x.law(2, 0);
        Due.law(x, 0, 0, "l=5");
        x.airline(70);
        x.plane(4, 3, 111);
        x.bill(1);
        x.bill(2);
        x.fly(5, 0);
        x.fly(2, 0);
        x.bill(5);
        x.right(0);
        x.right(6);
        x.file(3, 0);
        x.pay(0, 2, 3);
        x.earn(1, 50);
        x.go(200);
        x.end(0);
        Due.feed(x, "5-");
    }

    private static void allIsAsTheImageHasIt() {
        SkyFees x = Edge.some();
        x.image();
        disturb(x);
        due.is("40: all was changed", View.of(x, View.NOW).equals(imageAlone()) ? 1 : 0, 0);
        SkyFees y = Edge.some();
        y.image();
        disturb(y);
        y.restore();
        due.is("40: all is as the IMAGE has it", View.of(y, View.NOW).equals(imageAlone()) ? 1 : 0, 1);
        SkyFees z = Edge.some();
        z.image();
        disturb(z);
        z.restore();
        disturb(z);
        z.restore();
        due.is("40: also the second time", View.of(z, View.NOW).equals(imageAlone()) ? 1 : 0, 1);
    }

    private static java.util.List<Integer> imageAlone() {
        SkyFees x = Edge.some();
        x.image();
        return View.of(x, View.NOW);
    }

    private static void imageOfWhatIsEmptyAndFull() {
        SkyFees x = new SkyFees();
        x.image();
        Edge.fill(x);
        x.restore();
        SkyFees empty = new SkyFees();
        empty.image();
        due.is("40: empty again", View.of(x, View.NOW).equals(View.of(empty, View.NOW)) ? 1 : 0, 1);
        SkyFees y = new SkyFees();
        y.image();
        Edge.fill(y);
        y.restore();
        Edge.fill(y);
        SkyFees filled = Edge.full();
        filled.image();
        due.is("40: and full again", View.of(y, View.NOW).equals(View.of(filled, View.NOW)) ? 1 : 0, 1);
        SkyFees z = Edge.full();
        z.image();
        z.go(200);
        z.right(0);
        z.bill(5);
        z.pay(0, 3, 1);
        z.end(3);
        z.restore();
        SkyFees other = Edge.full();
        other.image();
        due.is("40: full as it was", View.of(z, View.NOW).equals(View.of(other, View.NOW)) ? 1 : 0, 1);
    }

    private static void restore() {
        fresh.refused("40: NONE: there is none", Due.NONE, SkyFees::restore);
        full.refused("40: NONE: there is none of what is full", Due.NONE, SkyFees::restore);
        some.answers("40: the DAY", 5, SkyFees::restore);
        some.answers("40: the IMAGE stays", 5, x -> {
            x.restore();
            x.go(100);
            x.airline(1);
            x.restore();
            return x.restore();
        });
        SkyFees x = new SkyFees();
        x.image();
        x.go(200);
        x.airline(3);
        Due.feed(x, "w");
        due.is("40: an IMAGE of DAY 0", x.restore(), 0);
        for (int what = 0; what <= 12; what++) {
            due.is("40: nothing is there, " + what, x.told(what), 0);
        }
        due.is("40: numbers begin anew", x.airline(4), 0);
    }

    private static void told() {
        some.range("41: BEYOND: what 0 .. 12", 0, 12, (x, v) -> x.told(v));
        int[] most = {8, 1, 12, 12, 30, 1, 40, 0, 60, 10, 0, 2 * 999999 + 21, 0};
        int[] now = {3, 1, 3, 2, 7, 3, 3, 13, 3, 41, 3, 56 + 5 + 0, 4};
        for (int what = 0; what <= 12; what++) {
            int w = what;
            fresh.answers("41: at first " + what, 0, x -> x.told(w));
            some.answers("41: now " + what, now[what], x -> x.told(w));
            full.answers("41: full " + what, most[what], x -> x.told(w));
        }
    }

    private static void found() {
        fresh.range("42: BEYOND: another k, counted, too", 1, 5, (x, v) -> x.found(v));
        some.range("42: BEYOND: another k, with others", 1, 5, (x, v) -> x.found(v));
        SkyFees x = new SkyFees();
        for (int i = 0; i < 200; i++) {
            x.found(i % 2 == 0 ? 0 : 6);
        }
        due.is("42: how many acts", x.found(1), 200);
        due.is("42: none of another", x.found(2) + x.found(3) + x.found(4) + x.found(5), 0);
        SkyFees y = Edge.some();
        y.image();
        y.trace(-1);
        y.end(2);
        y.as(0, 1);
        y.restore();
        due.is("42: NONE is counted also after restore()", y.found(2), 1);
        due.is("42: STATE is counted also after restore()", y.found(3), 1);
        due.is("42: KIND is counted also after restore()", y.found(5), 1);
    }
}
