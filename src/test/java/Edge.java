import java.util.ArrayList;
import java.util.Arrays;
import java.util.List;

/** Boundary cases in one setting, which is made anew for each call that is tried. */
final class Edge {
    /** Makes the setting. */
    interface Make {
        SkyFees make();
    }

    /** A call on an object. */
    interface Call {
        int on(SkyFees x);
    }

    /** A call on an object with a number whose range is tried. */
    interface With {
        int on(SkyFees x, int v);
    }

    private final Due due;
    private final Make make;
    private final List<List<Integer>> untouched = new ArrayList<>();

    Edge(Due due, Make make) {
        this.due = due;
        this.make = make;
        for (int part = 0; part < View.PARTS; part++) {
            untouched.add(View.of(make.make(), part));
        }
    }

    /** The call is answered so, and not with a finding. */
    void answers(String sentence, int want, Call call) {
        SkyFees x = make.make();
        int[] before = View.found(x);
        due.is(sentence, call.on(x), want);
        due.is(sentence + ": no finding", Arrays.equals(before, View.found(x)) ? 1 : 0, 1);
    }

    /** The call answers the finding, which is counted once, and nothing else is changed by it. */
    void refused(String sentence, int finding, Call call) {
        SkyFees x = make.make();
        int[] want = View.found(x);
        want[Due.LOW - finding - 1]++;
        due.is(sentence, call.on(x), finding);
        due.is(sentence + ": found is " + Arrays.toString(want), Arrays.equals(want, View.found(x)) ? 1 : 0, 1);
        for (int part = 0; part < View.PARTS; part++) {
            SkyFees y = make.make();
            call.on(y);
            due.is(sentence + ": part " + part + " is changed", View.of(y, part).equals(untouched.get(part)) ? 0 : 1, 0);
        }
    }

    /** BEYOND below the least and above the most number, and not at them. */
    void range(String sentence, int least, int most, With call) {
        from(sentence, least, call);
        refused(sentence + ", " + (most + 1), Due.BEYOND, x -> call.on(x, most + 1));
        refused(sentence + ", the greatest int", Due.BEYOND, x -> call.on(x, Integer.MAX_VALUE));
        within(sentence, most, call);
    }

    /** BEYOND below the least number, and not at it. */
    void from(String sentence, int least, With call) {
        refused(sentence + ", " + (least - 1), Due.BEYOND, x -> call.on(x, least - 1));
        refused(sentence + ", the least int", Due.BEYOND, x -> call.on(x, Integer.MIN_VALUE));
        within(sentence, least, call);
    }

    private void within(String sentence, int v, With call) {
        SkyFees x = make.make();
        int before = x.found(1);
        call.on(x, v);
        due.is(sentence + ", " + v + " is not beyond", x.found(1), before);
    }

    static SkyFees fresh() {
        return new SkyFees();
    }

    /**
     * Something of all: day 13, an image of day 5, airline 2 has ended.
     * Flights 0 billed and flown, 1 its twin, 2 of plane 1, 3 billed and 4 not, both of the ended airline,
     * 5 that must be flown and is not, 6 billed as flown. Sheets 0 of 8 bits, 1 of 16, 2 missing, 3 of 8.
     */
    static SkyFees some() {
        SkyFees x = Due.twoLands(60);
        x.airline(5);
        x.airline(7);
        x.plane(5, 1, 80);
        x.plane(2, 2, 50);
        x.land(1, 700, 35);
        Due.law(x, 3, 0, "l");
        Due.law(x, 1, 10, "1");
        Due.file(x, 0, 2, 3, 4, 5);
        Due.file(x, 0, 2, 3, 4, 5);
        Due.file(x, 1, 0, 8);
        Due.file(x, 2, 4, 5);
        Due.file(x, 2, 6, 7);
        Due.fly(x, 0, 2, -1, 4);
        x.bill(0);
        x.bill(3);
        x.end(2);
        x.go(5);
        Due.fly(x, 0, 1, 2, 3, 4);
        x.image();
        x.go(8);
        Due.file(x, 0, 1, 2, 3);
        Due.file(x, 0, 3, 2, 1);
        Due.fly(x, 6, 3, 2, 10);
        x.bill(6);
        x.pay(0, 1, 4);
        x.shut(20, true);
        x.fuel(33);
        x.rate(2, 250);
        Due.feed(x, "w+l");
        x.voice(0, 3, 7);
        Due.write(x, 0, 8, 0, 1, 2);
        Due.write(x, 1, 16, 7, -1, 300);
        Due.write(x, 3, 8, 9, -1, 9, 5, 6, 7, 0, 0, 0, 0, 0, 0, 0, 0, 0, 0, 0, 0, 0, 0, 0, 0, 0, 63);
        return x;
    }

    /**
     * All that can be full: 8 airlines, of which 7 has ended, 12 planes, 12 laws, 30 flights, 40 rows flown, 60
     * bytes. Plane 11 is of the ended airline; airline 0 has all the coin that one can have.
     */
    static SkyFees full() {
        SkyFees x = new SkyFees();
        fill(x);
        return x;
    }

    /** What full() does, with an object that is new. */
    static void fill(SkyFees x) {
        for (int a = 0; a < 8; a++) {
            x.airline(a == 0 || a == 7 ? 999999 : a);
        }
        for (int p = 0; p < 12; p++) {
            x.plane(p % 6, p < 11 ? p % 7 : 7, 50);
        }
        x.cell(0, 3);
        x.cell(1, 3);
        for (int law = 0; law < 12; law++) {
            Due.law(x, law % 4, 20 + law, "w");
        }
        Due.write(x, 0, 8, 0, 1);
        for (int f = 0; f < 30; f++) {
            x.file(f == 29 ? 11 : f % 11, 0);
        }
        for (int t = 0; t < 40; t++) {
            x.fly(t % 30, 0);
        }
        x.bill(0);
        x.end(7);
        Due.feed(x, "1+".repeat(29) + "10");
        Due.write(x, 1, 8, 0);
    }
}
