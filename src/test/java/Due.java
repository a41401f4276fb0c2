/** Compares answers with those that are due, and makes the setting that many tests need. */
final class Due {
    static final int LOW = -1000000;
    static final int BEYOND = LOW - 1;
    static final int NONE = LOW - 2;
    static final int STATE = LOW - 3;
    static final int FULL = LOW - 4;
    static final int KIND = LOW - 5;

    private int wrong = 0;
    private int asked = 0;

    void is(String call, long got, long want) {
        asked++;
        if (got != want) {
            wrong++;
            System.out.println(call + " answered " + got + ", due is " + want);
        }
    }

    void end() {
        System.out.println(wrong == 0 ? "all " + asked + " answers are as due" : wrong + " answers are not as due");
        if (wrong != 0 || asked == 0) {
            System.exit(1);
        }
    }

    /** A sheet of these numbers. */
    static void write(SkyFees x, int sheet, int bits, int... numbers) {
        x.sheet(sheet, bits, numbers.length);
        for (int i = 0; i < numbers.length; i++) {
            x.put(sheet, i, numbers[i]);
        }
    }

    /** A text comes to the tape. */
    static void feed(SkyFees x, String text) {
        for (int at = 0; at < text.length(); at += 8) {
            int n = Math.min(8, text.length() - at);
            long word = 0;
            for (int i = 0; i < n; i++) {
                word |= ((long) text.charAt(at + i) & 255L) << (8 * i);
            }
            x.feed(word, n);
        }
    }

    static int law(SkyFees x, int use, int from, String text) {
        feed(x, text);
        return x.law(use, from);
    }

    static int file(SkyFees x, int plane, int... cells) {
        write(x, 0, 8, cells);
        return x.file(plane, 0);
    }

    static int fly(SkyFees x, int flight, int... numbers) {
        write(x, 0, 8, numbers);
        return x.fly(flight, 0);
    }

    /** Row 0 of the sky is of land 1 (cells 0 .. 3) and of land 2 (4 .. 7); one airline, one plane of FACTOR 100. */
    static SkyFees twoLands(int coin) {
        SkyFees x = new SkyFees();
        for (int c = 0; c < 8; c++) {
            x.cell(c, c < 4 ? 1 : 2);
        }
        x.airline(coin);
        x.plane(0, 0, 50);
        return x;
    }
}
