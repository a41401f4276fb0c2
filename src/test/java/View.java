import java.util.ArrayList;
import java.util.List;

/**
 * All that can be seen of an object, as a row of numbers. To look changes the object (what found() tells, and
 * at last its sheets and more), so two that are compared are both made for this alone.
 */
final class View {
    /** Parts 0 to 3 show the sheets, as each of them can only be read by writing over another. */
    static final int PARTS = 6;
    /** Part 4 shows all but the sheets, part 5 the same after restore(). */
    static final int NOW = 4;

    private final SkyFees x;
    private final List<Integer> seen = new ArrayList<>();

    private View(SkyFees x) {
        this.x = x;
    }

    static List<Integer> of(SkyFees x, int part) {
        View view = new View(x);
        if (part < NOW) {
            view.sheet(part);
        } else if (part == NOW) {
            view.now();
        } else {
            view.see(x.restore());
            view.now();
        }
        return view.seen;
    }

    /** How often each finding was answered, BEYOND first. */
    static int[] found(SkyFees x) {
        return new int[] {x.found(1), x.found(2), x.found(3), x.found(4), x.found(5)};
    }

    private int see(int v) {
        seen.add(v);
        return v;
    }

    private void now() {
        for (int what = 0; what <= 12; what++) {
            see(x.told(what));
        }
        for (int i = 0; i <= 40; i++) {
            see(x.trace(i));
        }
        lands();
        airlines();
        flights();
        laws();
        sky();
        see(x.image());
        tape();
        for (int a = 0; a < x.told(0); a++) {
            see(x.end(a));
        }
    }

    private void lands() {
        for (int l = 0; l < 8; l++) {
            for (int what = 0; what < 8; what++) {
                see(x.landIs(l, what));
            }
            see(x.beside(l, false));
            see(x.beside(l, true));
        }
    }

    private void airlines() {
        for (int a = 0; a < x.told(0); a++) {
            see(x.coin(a));
            for (int l = 0; l < 8; l++) {
                see(x.owes(a, l));
            }
        }
        for (int p = 0; p < x.told(2); p++) {
            for (int what = 0; what < 4; what++) {
                see(x.planeIs(p, what));
            }
        }
    }

    private void flights() {
        int day = x.told(7);
        for (int f = 0; f < x.told(4); f++) {
            for (int what = 0; what < 8; what++) {
                see(x.flightIs(f, what));
            }
            for (int l = 0; l < 8; l++) {
                see(x.fee(f, l));
            }
            for (int k : new int[] {-1, 0, day / 2, day, 3000}) {
                for (int i = 0; i < 12; i++) {
                    see(x.row(f, k, i));
                }
            }
        }
    }

    private void laws() {
        for (int use = 0; use < 4; use++) {
            for (int day = 0; day <= 3000; day += day < 20 ? 1 : 149) {
                see(x.force(use, day));
            }
        }
        for (int law = 0; law < x.told(3); law++) {
            see(x.says(law, 0, -1, 3));
        }
    }

    private void sky() {
        for (int c = 0; c < 64; c++) {
            see(x.shut(c, true));
            see(x.cell(c, -1));
        }
        see(x.fuel(0));
    }

    private void tape() {
        see(x.law(3, 0));
        int law = x.told(3) - 1;
        see(x.says(law, 0, -1, 5));
    }

    /** A sheet's numbers: how many, of how many bits, and those that are a cell or -1. */
    private void sheet(int s) {
        for (int o = 0; o < 4; o++) {
            see(x.move(s, 0, o, 0, 0));
        }
        int other = (s + 1) % 4;
        for (int bits = 8; bits <= 32; bits *= 2) {
            for (int i = 0; i < 25; i++) {
                x.sheet(other, bits, 3);
                x.put(other, 1, -1);
                see(x.move(s, i, other, 0, 1));
                see(x.move(s, i, other, 2, 1));
                number(other);
            }
        }
    }

    /** Number 0 of a sheet [v, -1, v]. */
    private void number(int sheet) {
        x.image();
        see(x.block(sheet, 0));
        see(x.cell(0, -1));
        see(x.fly(0, sheet));
        see(x.row(0, 3000, 0));
        x.restore();
    }
}
