/** Boundary cases of promises 17 to 20: the treaty. */
public final class TreatyEdgeTest {
    private static final Due due = new Due();
    private static final Edge fresh = new Edge(due, Edge::fresh);
    private static final Edge some = new Edge(due, Edge::some);
    private static final Edge full = new Edge(due, Edge::full);

    public static void main(String[] args) {
        feedBeyond();
        feedLowestBytes();
        feedFull();
        lawBeyond();
        lawFull();
        lawFault();
        force();
        forceNone();
        says();
        saysOfAFlight();
        due.end();
    }

    private static void feedBeyond() {
        some.range("17: BEYOND: n 1 .. 8", 1, 8, (x, v) -> x.feed(0x3131313131313131L, v));
        fresh.answers("17: how many there are, 1", 1, x -> x.feed('w', 1));
        fresh.answers("17: how many there are, 8", 8, x -> x.feed(-1L, 8));
        some.answers("17: how many there are, with 3", 11, x -> x.feed(0L, 8));
    }

    private static void feedLowestBytes() {
        SkyFees x = new SkyFees();
        x.airline(0);
        x.plane(0, 0, 5);
        // the bytes are 1 2 3 4 + 1 1 1, the lowest first
        due.is("17: 8 bytes", x.feed(0x3131312B34333231L, 8), 8);
        due.is("17: a LAW of them", x.law(0, 0), 0);
        due.is("17: the lowest first", x.says(0, 0, -1, -1), 1234 + 111);
        due.is("17: the n lowest", x.feed(0x3131312B34333231L, 3), 3);
        due.is("17: a LAW of those", x.law(0, 0), 1);
        due.is("17: no byte more", x.says(1, 0, -1, -1), 123);
        x.feed(0x8000000000000077L, 8);
        due.is("17: the highest byte comes, too", x.law(0, 0), -11);
        x.feed(0x80L, 1);
        due.is("17: a byte above 127 is none of a TEXT", x.law(0, 0), -10);
    }

    private static void feedFull() {
        Edge nearly = new Edge(due, () -> {
            SkyFees x = Edge.some();
            for (int i = 0; i < 7; i++) {
                x.feed(0x3131313131313131L, 8);
            }
            return x;
        });
        nearly.answers("17: at most 60, with 59", 60, x -> x.feed('1', 1));
        nearly.refused("17: FULL: 2 with 59, and none of them comes", Due.FULL, x -> x.feed(0x3131, 2));
        nearly.refused("17: FULL: 8 with 59", Due.FULL, x -> x.feed(0x3131, 8));
        full.refused("17: FULL: 1 with 60", Due.FULL, x -> x.feed('1', 1));
        full.refused("17: BEYOND ahead of FULL, 0", Due.BEYOND, x -> x.feed('1', 0));
        full.refused("17: BEYOND ahead of FULL, 9", Due.BEYOND, x -> x.feed('1', 9));
    }

    private static void lawBeyond() {
        some.range("18: BEYOND: USES 0 .. 3, THE TAPE stays", 0, 3, (x, v) -> x.law(v, 0));
        some.range("18: BEYOND: days 0 .. 3000, THE TAPE stays", 0, 3000, (x, v) -> x.law(0, v));
        some.answers("18: its number", 2, x -> x.law(0, 0));
        some.answers("18: THE TAPE is empty then", 0, x -> {
            x.law(0, 0);
            return x.told(8);
        });
    }

    private static void lawFull() {
        SkyFees x = new SkyFees();
        for (int i = 0; i < 12; i++) {
            due.is("18: at most 12, " + i, Due.law(x, i % 4, 0, "1"), i);
        }
        due.is("18: FULL: a thirteenth", Due.law(x, 0, 0, "1"), Due.FULL);
        due.is("18: THE TAPE stays", x.told(8), 1);
        full.refused("18: FULL, THE TAPE stays", Due.FULL, y -> y.law(0, 0));
        full.refused("18: BEYOND of USE ahead of FULL", Due.BEYOND, y -> y.law(4, 0));
        full.refused("18: BEYOND of the day ahead of FULL", Due.BEYOND, y -> y.law(0, 3001));
    }

    /** A FAULT is no finding: THE TAPE is empty after it, and found() tells of none. */
    private static void fault(String what, String text, int place) {
        SkyFees x = new SkyFees();
        due.is("18: FAULT: " + what + ": " + text, Due.law(x, 0, 0, text), -10 - place);
        due.is("18: empty after " + text, x.told(8), 0);
        due.is("18: no LAW of " + text, x.told(3), 0);
        due.is("18: none in force of " + text, x.force(0, 3000), Due.NONE);
        for (int k = 1; k <= 5; k++) {
            due.is("18: found " + k + " after " + text, x.found(k), k == 2 ? 1 : 0);
        }
    }

    private static void lawFault() {
        fault("nothing at all", "", 0);
        fault("it ends too early", "w+", 2);
        fault("it ends too early, at 60", "1+".repeat(30), 60);
        fault("it ends too early, open at 60", "(" + "1+".repeat(29) + "1", 60);
        fault("the last of 60", "1+".repeat(29) + "1)", 59);
        fault("the first of 60", ")" + "1+".repeat(29) + "1", 0);
        fault("a fifth digit", "1+12345", 6);
        fault("a fifth digit at the end", "00000", 4);
        fault("a sixth (", "((((((1))))))", 5);
        fault("a sixth !", "!!!!!!1", 5);
        fault("a sixth of both", "!(!(!(1)))", 5);
        fault("a sixth behind one that was closed", "(1)+((((((1", 9);
        fault("a blank", "w w", 1);
        fault("a blank at first", " w", 0);
        fault("a blank at last", "w ", 1);
        fault("a second comparison", "1=1=1", 3);
        fault("a byte 0", "w\u0000", 1);
    }

    private static void force() {
        some.range("19: BEYOND: USES 0 .. 3", 0, 3, (x, v) -> x.force(v, 0));
        some.range("19: BEYOND: days 0 .. 3000", 0, 3000, (x, v) -> x.force(3, v));
        some.refused("19: BEYOND of the day ahead of NONE", Due.BEYOND, x -> x.force(0, 3001));
    }

    private static void forceNone() {
        fresh.refused("19: NONE: there is no LAW", Due.NONE, x -> x.force(0, 0));
        some.refused("19: NONE: none of that USE", Due.NONE, x -> x.force(0, 3000));
        some.refused("19: NONE: a day ahead of its first", Due.NONE, x -> x.force(1, 9));
        some.answers("19: its first day", 1, x -> x.force(1, 10));
        some.answers("19: the last day", 1, x -> x.force(1, 3000));
        some.answers("19: LAW 0 on day 0", 0, x -> x.force(3, 0));
        Edge last = new Edge(due, () -> {
            SkyFees x = Edge.some();
            x.law(2, 3000);
            return x;
        });
        last.answers("19: for the last day alone", 2, x -> x.force(2, 3000));
        last.refused("19: NONE: a day ahead of the last", Due.NONE, x -> x.force(2, 2999));
        full.answers("19: the twelfth", 11, x -> x.force(3, 31));
        full.answers("19: the eighth, a day ahead of the twelfth", 7, x -> x.force(3, 30));
    }

    private static void says() {
        some.range("20: BEYOND: no such LAW", 0, 1, (x, v) -> x.says(v, 0, -1, -1));
        some.range("20: BEYOND: no such PLANE", 0, 2, (x, v) -> x.says(0, v, -1, -1));
        some.range("20: BEYOND: LANDS 0 .. 7, -1: without", -1, 7, (x, v) -> x.says(0, 0, -1, v));
        full.range("20: BEYOND: 12 LAWS", 0, 11, (x, v) -> x.says(v, 0, -1, -1));
        full.range("20: BEYOND: 12 PLANES", 0, 11, (x, v) -> x.says(0, v, -1, -1));
        fresh.refused("20: BEYOND: there is nothing", Due.BEYOND, x -> x.says(0, 0, -1, -1));
        SkyFees x = new SkyFees();
        x.airline(0);
        x.plane(0, 0, 1);
        for (int k = 1; k <= 5; k++) {
            int law = Due.law(x, 0, 0, "0-1000*1000-" + k);
            due.is("20: what a LAW comes to may be as low as a finding", x.says(law, 0, -1, -1), Due.LOW - k);
            due.is("20: and is none", x.found(k), 0);
        }
    }

    private static void saysOfAFlight() {
        some.refused("20: BEYOND: a FLIGHT below -1", Due.BEYOND, x -> x.says(0, 0, -2, 0));
        some.refused("20: BEYOND: a FLIGHT of the least int", Due.BEYOND, x -> x.says(0, 0, Integer.MIN_VALUE, 0));
        some.refused("20: BEYOND: no such FLIGHT", Due.BEYOND, x -> x.says(0, 0, 7, 0));
        some.refused("20: BEYOND: a FLIGHT of the greatest int", Due.BEYOND, x -> x.says(0, 0, Integer.MAX_VALUE, 0));
        some.refused("20: BEYOND: a FLIGHT that isn't of that PLANE", Due.BEYOND, x -> x.says(0, 1, 0, 0));
        some.refused("20: BEYOND: nor is this", Due.BEYOND, x -> x.says(0, 0, 2, 0));
        some.answers("20: the first FLIGHT of that PLANE", 4, x -> x.says(0, 0, 0, 4));
        some.answers("20: the last FLIGHT of that PLANE", 7, x -> x.says(0, 0, 6, 7));
        some.answers("20: -1: without", -1, x -> x.says(0, 0, -1, -1));
    }
}
