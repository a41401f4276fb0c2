import java.util.ArrayList;
import java.util.Arrays;
import java.util.List;
import java.util.Random;
import java.util.TreeSet;

/**
 * Random runs of calls, each answer compared with that of a slow model that was written apart:
 * ways are all walked, laws are split as texts, voices are real Java classes.
 */
public final class ModelTest {
    private static final int RUNS = 1500;
    private static final int CALLS = 500;
    private static int wrong = 0;
    private static final int[] seen = new int[6];

    public static void main(String[] args) {
        for (int run = 0; run < RUNS && wrong < 5; run++) {
            new Run(run).go();
        }
        System.out.println("findings seen: " + Arrays.toString(seen));
        System.out.println(wrong == 0 ? "all answers are as due" : wrong + " answers are not as due");
        if (wrong != 0) {
            System.exit(1);
        }
    }

    /** One run of calls on a new object and a new model. */
    private static final class Run {
        final int number;
        final Random random;
        final SkyFees x = new SkyFees();
        final Model m = new Model();
        final StringBuilder log = new StringBuilder();
        int calls = 0;

        Run(int number) {
            this.number = number;
            this.random = new Random(977L * number + 5);
        }

        void due(String call, long got, long want) {
            calls++;
            log.append(call).append(" = ").append(got).append('\n');
            if (want < Model.LOW && want >= Model.LOW - 5) {
                seen[(int) (Model.LOW - want)]++;
            }
            if (got != want) {
                wrong++;
                System.out.println("run " + number + ", call " + calls + ": " + call
                    + " answered " + got + ", due is " + want);
                if (wrong == 1) {
                    System.out.println(log);
                }
            }
        }

        void go() {
            if (random.nextInt(8) != 0) {
                prepare();
            }
            while (calls < CALLS && wrong == 0) {
                act(random.nextInt(60));
            }
        }

        void prepare() {
            int lands = 1 + random.nextInt(8);
            int from = 0;
            while (from < 64) {
                int n = Math.min(24, 64 - from);
                sheet(0, 8, n);
                for (int i = 0; i < n; i++) {
                    if (random.nextInt(3) != 0) {
                        put(0, i, random.nextInt(lands + 1) - 1);
                    }
                }
                block(0, from);
                from += n;
            }
            for (int i = 0; i < 3; i++) {
                airline(random.nextInt(3) == 0 ? random.nextInt(1000000) : random.nextInt(300));
                plane(random.nextInt(6), random.nextInt(i + 1), 1 + random.nextInt(600));
            }
        }

        /** Mostly within the bounds, sometimes at them or beyond. */
        int pick(int least, int most) {
            switch (random.nextInt(40)) {
                case 0:
                    return least - 1;
                case 1:
                    return most + 1;
                case 2:
                    return least;
                case 3:
                    return most;
                case 4:
                    return random.nextInt(8) == 0 ? random.nextInt() : least;
                default:
                    return least + (int) (random.nextDouble() * ((long) most - least + 1));
            }
        }

        int someLand() { return pick(0, 7); }
        int someCell() { return pick(0, 63); }
        int someSheet() { return pick(0, 3); }
        int someAirline() { return pick(0, Math.max(0, m.airlines.size() - 1)); }
        int somePlane() { return pick(0, Math.max(0, m.planes.size() - 1)); }
        int someFlight() { return pick(0, Math.max(0, m.flights.size() - 1)); }

        int someDay() {
            return random.nextInt(3) == 0 ? pick(-1, 3000) : Math.max(-1, m.day - random.nextInt(30));
        }

        void act(int which) {
            switch (which) {
                case 0: case 1: cell(someCell(), pick(-1, 7)); break;
                case 2: block(someSheet(), someCell()); break;
                case 3: shut(someCell(), random.nextInt(3) != 0); break;
                case 4: land(someLand(), pick(0, 9999), random.nextBoolean() ? pick(1, 40) : pick(1, 9999)); break;
                case 5: case 6: landIs(someLand(), pick(0, 7)); break;
                case 7: rate(someLand(), random.nextBoolean() ? pick(0, 9999) : pick(0, 500)); break;
                case 8: airline(pick(0, 999999)); break;
                case 9: case 10: plane(pick(0, 5), someAirline(), pick(1, 600)); break;
                case 11: as(somePlane(), pick(0, 5)); break;
                case 12: case 13: planeIs(somePlane(), pick(0, 3)); break;
                case 14: earn(someAirline(), pick(1, 99999)); break;
                case 15: coin(someAirline()); break;
                case 16: case 17: owes(someAirline(), pick(-1, 7)); break;
                case 18: case 19: paySome(); break;
                case 20: endSome(); break;
                case 21: case 22: case 23: tellLaw(); break;
                case 24: force(pick(0, 3), someDay()); break;
                case 25: case 26:
                    says(pick(0, Math.max(0, m.laws.size() - 1)), somePlane(), pick(-1, m.flights.size()), pick(-1, 7));
                    break;
                case 27: case 28: case 29: fileSome(); break;
                case 30: case 31: flySome(); break;
                case 32: case 33: flightIs(someFlight(), pick(0, 7)); break;
                case 34: row(someFlight(), someDay(), pick(0, 11)); break;
                case 35: case 36: miles(someFlight(), someLand(), someDay(), pick(0, 2)); break;
                case 37: case 38: case 39: bill(someFlight()); break;
                case 40: case 41: case 42: right(someFlight()); break;
                case 43: fee(someFlight(), someLand()); break;
                case 44: case 45: beside(someLand(), random.nextBoolean()); break;
                case 46: case 47: if (random.nextInt(3) == 0) { goOn(pick(1, 200)); } else { goOn(pick(1, 9)); } break;
                case 48: fuel(pick(0, 999)); break;
                case 49: case 50: cheapest(somePlane(), someCell(), someCell(), pick(-2, 14)); break;
                case 51: gain(somePlane(), someCell(), someCell(), someLand()); break;
                case 52: voiceSome(); break;
                case 53: trace(pick(0, 11)); break;
                case 54: sheet(someSheet(), pick(0, 4) * 8, pick(0, 24)); break;
                case 55: put(someSheet(), pick(0, 23), random.nextBoolean() ? random.nextInt() : pick(-1, 63)); break;
                case 56: move(someSheet(), pick(0, 20), someSheet(), pick(0, 20), pick(0, 12)); break;
                case 57: if (random.nextInt(4) == 0) { image(); } else { found(pick(1, 5)); } break;
                case 58: if (random.nextInt(4) == 0) { restore(); } else { found(pick(1, 5)); } break;
                default: told(pick(0, 12)); break;
            }
        }

        void paySome() {
            int airline = someAirline();
            int land = someLand();
            int most = 99999;
            if (airline >= 0 && airline < m.airlines.size() && land >= 0 && land < 8 && random.nextInt(4) != 0) {
                most = Math.max(1, Math.min(m.airlines.get(airline).owes[land], 99999));
            }
            pay(airline, land, pick(1, most));
        }

        /** Often all is put back then, so that many ends are seen in one run. */
        void endSome() {
            boolean back = random.nextInt(8) != 0;
            if (back) {
                image();
            }
            end(someAirline());
            for (int l = 0; l < 8; l++) {
                landIs(l, 7);
            }
            if (back) {
                restore();
            }
        }

        void tellLaw() {
            String text = Texts.make(random);
            for (int at = 0; at < text.length(); at += 8) {
                long word = random.nextLong();
                int n = Math.min(8, text.length() - at);
                for (int i = 0; i < n; i++) {
                    word = word & ~(255L << (8 * i)) | ((long) text.charAt(at + i) & 255L) << (8 * i);
                }
                feed(word, n);
            }
            if (random.nextInt(20) == 0) {
                feed(random.nextLong(), pick(1, 8));
            }
            law(pick(0, 3), random.nextBoolean() ? 0 : pick(0, m.day + 40));
        }

        int[] walk(boolean gaps) {
            int n = 2 + random.nextInt(random.nextInt(4) == 0 ? 12 : 6);
            int[] row = new int[n];
            row[0] = random.nextInt(64);
            for (int i = 1; i < n; i++) {
                List<Integer> next = Model.nextTo(row[i - 1]);
                row[i] = next.get(random.nextInt(next.size()));
            }
            int left = 6;
            for (int i = 1; i < n - 1 && gaps; i++) {
                if (random.nextInt(2) == 0 && left > 0) {
                    row[i] = -1;
                    left--;
                }
            }
            if (random.nextInt(12) == 0) {
                row[random.nextInt(n)] = random.nextInt(66) - 1;
            }
            return row;
        }

        void fillSheet(int sheet, int[] row) {
            sheet(sheet, 8 << random.nextInt(3), row.length);
            for (int i = 0; i < row.length; i++) {
                put(sheet, i, row[i]);
            }
        }

        void fileSome() {
            int sheet = random.nextInt(4);
            if (random.nextInt(3) != 0) {
                fillSheet(sheet, walk(false));
            }
            int plane = somePlane();
            file(plane, sheet);
            if (random.nextInt(3) == 0) {
                file(plane, sheet);
            }
        }

        void flySome() {
            int sheet = random.nextInt(4);
            if (random.nextInt(4) != 0) {
                fillSheet(sheet, walk(true));
            }
            int flight = someFlight();
            fly(flight, sheet);
            if (random.nextInt(2) == 0) {
                right(flight);
            }
        }

        void voiceSome() {
            voice(somePlane(), pick(0, 3), random.nextBoolean() ? random.nextInt() : pick(-100, 100));
            int n = x.told(12);
            m.told(12);
            for (int i = 0; i < n; i++) {
                trace(i);
            }
        }

        void cell(int a, int b) { due("cell(" + a + ", " + b + ")", x.cell(a, b), m.cell(a, b)); }
        void block(int a, int b) { due("block(" + a + ", " + b + ")", x.block(a, b), m.block(a, b)); }
        void shut(int a, boolean b) { due("shut(" + a + ", " + b + ")", x.shut(a, b), m.shut(a, b)); }
        void land(int a, int b, int c) { due("land(" + a + ", " + b + ", " + c + ")", x.land(a, b, c), m.land(a, b, c)); }
        void landIs(int a, int b) { due("landIs(" + a + ", " + b + ")", x.landIs(a, b), m.landIs(a, b)); }
        void rate(int a, int b) { due("rate(" + a + ", " + b + ")", x.rate(a, b), m.rate(a, b)); }
        void airline(int a) { due("airline(" + a + ")", x.airline(a), m.airline(a)); }
        void plane(int a, int b, int c) { due("plane(" + a + ", " + b + ", " + c + ")", x.plane(a, b, c), m.plane(a, b, c)); }
        void as(int a, int b) { due("as(" + a + ", " + b + ")", x.as(a, b), m.as(a, b)); }
        void planeIs(int a, int b) { due("planeIs(" + a + ", " + b + ")", x.planeIs(a, b), m.planeIs(a, b)); }
        void earn(int a, int b) { due("earn(" + a + ", " + b + ")", x.earn(a, b), m.earn(a, b)); }
        void coin(int a) { due("coin(" + a + ")", x.coin(a), m.coin(a)); }
        void owes(int a, int b) { due("owes(" + a + ", " + b + ")", x.owes(a, b), m.owes(a, b)); }
        void pay(int a, int b, int c) { due("pay(" + a + ", " + b + ", " + c + ")", x.pay(a, b, c), m.pay(a, b, c)); }
        void end(int a) { due("end(" + a + ")", x.end(a), m.end(a)); }
        void feed(long a, int b) { due("feed(" + a + "L, " + b + ")", x.feed(a, b), m.feed(a, b)); }
        void law(int a, int b) { due("law(" + a + ", " + b + ")", x.law(a, b), m.law(a, b)); }
        void force(int a, int b) { due("force(" + a + ", " + b + ")", x.force(a, b), m.force(a, b)); }
        void says(int a, int b, int c, int d) { due("says(" + a + ", " + b + ", " + c + ", " + d + ")", x.says(a, b, c, d), m.says(a, b, c, d)); }
        void file(int a, int b) { due("file(" + a + ", " + b + ")", x.file(a, b), m.file(a, b)); }
        void fly(int a, int b) { due("fly(" + a + ", " + b + ")", x.fly(a, b), m.fly(a, b)); }
        void flightIs(int a, int b) { due("flightIs(" + a + ", " + b + ")", x.flightIs(a, b), m.flightIs(a, b)); }
        void row(int a, int b, int c) { due("row(" + a + ", " + b + ", " + c + ")", x.row(a, b, c), m.row(a, b, c)); }
        void miles(int a, int b, int c, int d) { due("miles(" + a + ", " + b + ", " + c + ", " + d + ")", x.miles(a, b, c, d), m.miles(a, b, c, d)); }
        void bill(int a) { due("bill(" + a + ")", x.bill(a), m.bill(a)); }
        void right(int a) { due("right(" + a + ")", x.right(a), m.right(a)); }
        void fee(int a, int b) { due("fee(" + a + ", " + b + ")", x.fee(a, b), m.fee(a, b)); }
        void beside(int a, boolean b) { due("beside(" + a + ", " + b + ")", x.beside(a, b), m.beside(a, b)); }
        void goOn(int a) { due("go(" + a + ")", x.go(a), m.go(a)); }
        void fuel(int a) { due("fuel(" + a + ")", x.fuel(a), m.fuel(a)); }
        void cheapest(int a, int b, int c, int d) { due("cheapest(" + a + ", " + b + ", " + c + ", " + d + ")", x.cheapest(a, b, c, d), m.cheapest(a, b, c, d)); }
        void gain(int a, int b, int c, int d) { due("gain(" + a + ", " + b + ", " + c + ", " + d + ")", x.gain(a, b, c, d), m.gain(a, b, c, d)); }
        void voice(int a, int b, int c) { due("voice(" + a + ", " + b + ", " + c + ")", x.voice(a, b, c), m.voice(a, b, c)); }
        void trace(int a) { due("trace(" + a + ")", x.trace(a), m.trace(a)); }
        void sheet(int a, int b, int c) { due("sheet(" + a + ", " + b + ", " + c + ")", x.sheet(a, b, c), m.sheet(a, b, c)); }
        void put(int a, int b, int c) { due("put(" + a + ", " + b + ", " + c + ")", x.put(a, b, c), m.put(a, b, c)); }
        void move(int a, int b, int c, int d, int e) { due("move(" + a + ", " + b + ", " + c + ", " + d + ", " + e + ")", x.move(a, b, c, d, e), m.move(a, b, c, d, e)); }
        void image() { due("image()", x.image(), m.image()); }
        void restore() { due("restore()", x.restore(), m.restore()); }
        void told(int a) { due("told(" + a + ")", x.told(a), m.told(a)); }
        void found(int a) { due("found(" + a + ")", x.found(a), m.found(a)); }
    }

    /** Texts of the treaty: made at random, judged by trying all ways to read them, worked out by splitting. */
    static final class Texts {
        static String make(Random random) {
            String text;
            do {
                text = any(random, 0, 0);
            } while (text.length() > 60);
            if (random.nextInt(5) == 0) {
                char[] signs = text.toCharArray();
                String all = "0123456789wkamdl!()+-*/<=>&|x ~";
                signs[random.nextInt(signs.length)] = random.nextInt(8) == 0
                    ? (char) random.nextInt(256) : all.charAt(random.nextInt(all.length()));
                text = new String(signs);
            }
            if (random.nextInt(12) == 0) {
                text = text.substring(0, random.nextInt(text.length()));
            }
            return text;
        }

        private static String any(Random random, int level, int open) {
            if (level == 5) {
                return smallest(random, open);
            }
            String[] signs = {"|", "&", "<=>", "+-", "*/"};
            StringBuilder text = new StringBuilder(any(random, level + 1, open));
            int more = random.nextInt(5) == 0 ? 1 + random.nextInt(2) : 0;
            for (int i = 0; i < (level == 2 ? Math.min(more, 1) : more); i++) {
                text.append(signs[level].charAt(random.nextInt(signs[level].length())));
                text.append(any(random, level + 1, open));
            }
            return text.toString();
        }

        private static String smallest(Random random, int open) {
            int which = random.nextInt(open >= 6 ? 6 : 9);
            if (which < 2) {
                return String.valueOf(random.nextInt(random.nextBoolean() ? 10 : 10000));
            }
            if (which < 6) {
                return String.valueOf("wkamdl".charAt(random.nextInt(6)));
            }
            return which == 6 ? "!" + smallest(random, open + 1) : "(" + any(random, 0, open + 1) + ")";
        }

        static boolean isText(String s) {
            return ends(s, 0, 0, 0).contains(s.length());
        }

        static int fault(String s) {
            for (int i = 0; i < s.length(); i++) {
                if (!goesOn(s.substring(0, i + 1))) {
                    return i;
                }
            }
            return isText(s) ? -1 : s.length();
        }

        private static boolean goesOn(String s) {
            String closing = "";
            for (int i = 0; i <= 6; i++) {
                if (isText(s + closing) || isText(s + "1" + closing)) {
                    return true;
                }
                closing += ")";
            }
            return false;
        }

        /** Where what is of a level may end that begins at a place. */
        private static TreeSet<Integer> ends(String s, int level, int from, int open) {
            TreeSet<Integer> all = new TreeSet<>();
            if (level == 5) {
                return smallestEnds(s, from, open);
            }
            String signs = new String[] {"|", "&", "<=>", "+-", "*/"}[level];
            TreeSet<Integer> reached = ends(s, level + 1, from, open);
            all.addAll(reached);
            for (int turn = 0; !reached.isEmpty() && (level != 2 || turn < 1); turn++) {
                TreeSet<Integer> further = new TreeSet<>();
                for (int at : reached) {
                    if (at < s.length() && signs.indexOf(s.charAt(at)) >= 0) {
                        further.addAll(ends(s, level + 1, at + 1, open));
                    }
                }
                all.addAll(further);
                reached = further;
            }
            return all;
        }

        private static TreeSet<Integer> smallestEnds(String s, int from, int open) {
            TreeSet<Integer> all = new TreeSet<>();
            if (from >= s.length()) {
                return all;
            }
            char c = s.charAt(from);
            if ("wkamdl".indexOf(c) >= 0) {
                all.add(from + 1);
            } else if (c == '!' && open < 5) {
                all.addAll(smallestEnds(s, from + 1, open + 1));
            } else if (c == '(' && open < 5) {
                for (int at : ends(s, 0, from + 1, open + 1)) {
                    if (at < s.length() && s.charAt(at) == ')') {
                        all.add(at + 1);
                    }
                }
            }
            int i = from;
            while (i < s.length() && i < from + 4 && s.charAt(i) >= '0' && s.charAt(i) <= '9') {
                i++;
                all.add(i);
            }
            return all;
        }

        static int value(String s, int[] names) {
            for (String signs : new String[] {"|", "&", "<=>", "+-", "*/"}) {
                int depth = 0;
                for (int i = s.length() - 1; i >= 0; i--) {
                    char c = s.charAt(i);
                    depth += c == ')' ? 1 : c == '(' ? -1 : 0;
                    if (depth == 0 && signs.indexOf(c) >= 0) {
                        return join(c, value(s.substring(0, i), names), value(s.substring(i + 1), names));
                    }
                }
            }
            if (s.charAt(0) == '!') {
                return value(s.substring(1), names) == 0 ? 1 : 0;
            }
            if (s.charAt(0) == '(') {
                return value(s.substring(1, s.length() - 1), names);
            }
            int name = "wkamdl".indexOf(s.charAt(0));
            return name >= 0 ? names[name] : Integer.parseInt(s);
        }

        private static int join(char c, int a, int b) {
            boolean truth;
            switch (c) {
                case '+': return a + b;
                case '-': return a - b;
                case '*': return a * b;
                case '/': return b == 0 ? 0 : a / b;
                case '|': truth = a != 0 | b != 0; break;
                case '&': truth = a != 0 & b != 0; break;
                case '<': truth = a < b; break;
                case '=': truth = a == b; break;
                default: truth = a > b; break;
            }
            return truth ? 1 : 0;
        }
    }

    /** Planes as real classes, so that Java itself says which body is meant. */
    static class PlaneVoice {
        int n;
        int w;
        List<Integer> trace = new ArrayList<>();

        int lift(int x) { trace.add(10); return x + w; }
        int hum(int x) { trace.add(11); return lift(x) * 2; }
        int turn(int x) { trace.add(12); return x - n; }
        int tell(int x) { trace.add(13); return hum(x) ^ turn(x); }

        static PlaneVoice of(int kind) {
            switch (kind) {
                case 0: return new PlaneVoice();
                case 1: return new LinerVoice();
                case 2: return new CargoVoice();
                case 3: return new SmallVoice();
                case 4: return new StatedVoice();
                default: return new TrainerVoice();
            }
        }
    }

    static class LinerVoice extends PlaneVoice {
        @Override int lift(int x) { trace.add(20); return super.lift(x) + n; }
        @Override int tell(int x) { trace.add(21); return super.tell(x - 1); }
    }

    static class CargoVoice extends LinerVoice {
        @Override int turn(int x) { trace.add(30); return super.turn(x) * 3; }
        @Override int lift(int x) { trace.add(31); return super.lift(x + w); }
    }

    static class SmallVoice extends PlaneVoice {
        @Override int hum(int x) { trace.add(40); return super.hum(x) - turn(x); }
    }

    static class StatedVoice extends PlaneVoice {
        @Override int tell(int x) { trace.add(50); return turn(x) - super.tell(x); }
    }

    static class TrainerVoice extends SmallVoice {
        @Override int turn(int x) { trace.add(60); return super.turn(x - w); }
        @Override int hum(int x) { trace.add(61); return super.hum(x) + lift(x); }
    }

    static final class Airline {
        int coin;
        boolean ended;
        int[] owes = new int[8];

        Airline copy() {
            Airline a = new Airline();
            a.coin = coin;
            a.ended = ended;
            a.owes = owes.clone();
            return a;
        }
    }

    record Plane(int kind, int airline, int weight) { }

    record Law(int use, int from, String text) { }

    record Told(int day, int[] row) { }

    static final class Flight {
        int plane;
        int filedOn;
        int[] filed;
        List<Told> told = new ArrayList<>();
        int billedOn = -1;
        boolean doubled;
        int[] fees = new int[8];
        int[] rates = new int[8];

        Flight copy() {
            Flight f = new Flight();
            f.plane = plane;
            f.filedOn = filedOn;
            f.filed = filed;
            f.told = new ArrayList<>(told);
            f.billedOn = billedOn;
            f.doubled = doubled;
            f.fees = fees.clone();
            f.rates = rates.clone();
            return f;
        }
    }

    static final class Land {
        int cost;
        int foretold = 1000;
        int rate = 100;
        int income;
        List<Integer> rests = new ArrayList<>();
        int lost;

        Land copy() {
            Land l = new Land();
            l.cost = cost;
            l.foretold = foretold;
            l.rate = rate;
            l.income = income;
            l.rests = new ArrayList<>(rests);
            l.lost = lost;
            return l;
        }
    }

    /** The document once more, slowly. */
    static final class Model {
        static final int LOW = -1000000;
        int[] own = new int[64];
        boolean[] shut = new boolean[64];
        Land[] lands = new Land[8];
        int day = 0;
        int fuel = 10;
        List<Airline> airlines = new ArrayList<>();
        List<Plane> planes = new ArrayList<>();
        List<Law> laws = new ArrayList<>();
        List<Flight> flights = new ArrayList<>();
        String tape = "";
        Model kept;
        int images = 0;
        List<Integer> trace = new ArrayList<>();
        Object[] sheets = new Object[4];
        int[] found = new int[6];

        Model() {
            Arrays.fill(own, -1);
            for (int i = 0; i < 8; i++) {
                lands[i] = new Land();
            }
        }

        void take(Model o) {
            own = o.own.clone();
            shut = o.shut.clone();
            for (int i = 0; i < 8; i++) {
                lands[i] = o.lands[i].copy();
            }
            day = o.day;
            fuel = o.fuel;
            airlines = new ArrayList<>();
            for (Airline a : o.airlines) {
                airlines.add(a.copy());
            }
            planes = new ArrayList<>(o.planes);
            laws = new ArrayList<>(o.laws);
            flights = new ArrayList<>();
            for (Flight f : o.flights) {
                flights.add(f.copy());
            }
            tape = o.tape;
        }

        int no(int k) {
            found[k]++;
            return LOW - k;
        }

        static boolean in(int v, int a, int b) { return v >= a && v <= b; }
        boolean isAirline(int a) { return in(a, 0, airlines.size() - 1); }
        boolean isPlane(int p) { return in(p, 0, planes.size() - 1); }
        boolean isFlight(int f) { return in(f, 0, flights.size() - 1); }

        static List<Integer> nextTo(int c) {
            List<Integer> next = new ArrayList<>();
            for (int o = 0; o < 64; o++) {
                if (Math.abs(o % 8 - c % 8) + Math.abs(o / 8 - c / 8) == 1) {
                    next.add(o);
                }
            }
            return next;
        }

        int[] numbers(int sheet) {
            Object s = sheets[sheet];
            int n = java.lang.reflect.Array.getLength(s);
            int[] row = new int[n];
            for (int i = 0; i < n; i++) {
                row[i] = java.lang.reflect.Array.getInt(s, i);
            }
            return row;
        }

        int cell(int cell, int land) {
            if (!in(cell, 0, 63) || !in(land, -1, 7)) return no(1);
            int was = own[cell];
            own[cell] = land;
            return was;
        }

        int block(int sheet, int from) {
            if (!in(sheet, 0, 3) || !in(from, 0, 63)) return no(1);
            if (sheets[sheet] == null) return no(2);
            int[] row = numbers(sheet);
            if (from + row.length > 64) return no(3);
            for (int v : row) {
                if (!in(v, -1, 7)) return no(5);
            }
            for (int i = 0; i < row.length; i++) {
                own[from + i] = row[i];
            }
            return row.length;
        }

        int shut(int cell, boolean is) {
            if (!in(cell, 0, 63)) return no(1);
            int r = shut[cell] != is ? 1 : 0;
            shut[cell] = is;
            return r;
        }

        int land(int land, int cost, int foretold) {
            if (!in(land, 0, 7) || !in(cost, 0, 9999) || !in(foretold, 1, 9999)) return no(1);
            int was = lands[land].cost;
            lands[land].cost = cost;
            lands[land].foretold = foretold;
            return was;
        }

        int landIs(int land, int what) {
            if (!in(land, 0, 7) || !in(what, 0, 7)) return no(1);
            Land l = lands[land];
            int sum = 0;
            switch (what) {
                case 0: return l.cost;
                case 1: return l.foretold;
                case 2: return l.rate;
                case 3: return l.income;
                case 4: return l.rests.isEmpty() ? 0 : l.rests.get(l.rests.size() - 1);
                case 5:
                    for (int o : own) {
                        if (o == land) sum++;
                    }
                    return sum;
                case 6:
                    for (Airline a : airlines) sum += a.owes[land];
                    return sum;
                default: return l.lost;
            }
        }

        int rate(int land, int v) {
            if (!in(land, 0, 7) || !in(v, 0, 9999)) return no(1);
            int was = lands[land].rate;
            lands[land].rate = v;
            return was;
        }

        int airline(int coin) {
            if (!in(coin, 0, 999999)) return no(1);
            if (airlines.size() == 8) return no(4);
            Airline a = new Airline();
            a.coin = coin;
            airlines.add(a);
            return airlines.size() - 1;
        }

        int plane(int kind, int airline, int weight) {
            if (!in(kind, 0, 5) || !isAirline(airline) || !in(weight, 1, 600)) return no(1);
            if (airlines.get(airline).ended) return no(3);
            if (planes.size() == 12) return no(4);
            planes.add(new Plane(kind, airline, weight));
            return planes.size() - 1;
        }

        int as(int plane, int kind) {
            if (!isPlane(plane) || !in(kind, 0, 5)) return no(1);
            Class<?> wanted = PlaneVoice.of(kind).getClass();
            if (!wanted.isInstance(PlaneVoice.of(planes.get(plane).kind()))) return no(5);
            return planes.get(plane).weight();
        }

        int planeIs(int plane, int what) {
            if (!isPlane(plane) || !in(what, 0, 3)) return no(1);
            Plane p = planes.get(plane);
            switch (what) {
                case 0: return p.kind();
                case 1: return p.airline();
                case 2: return p.weight();
                default: return factor(plane, -1, -1);
            }
        }

        int factor(int plane, int flight, int land) {
            int law = lawOn(2, flight < 0 ? day : flights.get(flight).filedOn);
            if (law < 0) {
                return (int) Math.floor(Math.sqrt(200.0 * planes.get(plane).weight()));
            }
            int v = worth(law, plane, flight, land);
            return v < 0 ? 0 : v > 9999 ? 9999 : v;
        }

        int lawOn(int use, int day) {
            int found = -1;
            for (int i = 0; i < laws.size(); i++) {
                if (laws.get(i).use() == use && laws.get(i).from() <= day) found = i;
            }
            return found;
        }

        int worth(int law, int plane, int flight, int land) {
            Plane p = planes.get(plane);
            int m = 0;
            for (int l = 0; l < 8 && flight >= 0; l++) {
                m += wayMiles(flights.get(flight).filed, l);
            }
            int d = flight < 0 ? day : flights.get(flight).filedOn;
            return Texts.value(laws.get(law).text(), new int[] {p.weight(), p.kind(), p.airline(), m, d, land});
        }

        int wayMiles(int[] way, int land) {
            int sum = 0;
            for (int i = 1; i < way.length; i++) {
                boolean a = own[way[i - 1]] == land;
                boolean b = own[way[i]] == land;
                sum += a && b ? 10 : a || b ? 5 : 0;
            }
            return sum;
        }

        /** Walks every way; least and most come back, or null if there is none. */
        int[] span(int[] row, int land) {
            int[] out = {Integer.MAX_VALUE, -1};
            walk(row, 1, new int[] {row[0], 0}, land, out);
            return out[1] < 0 ? null : out;
        }

        private void walk(int[] row, int i, int[] at, int land, int[] out) {
            if (i == row.length) {
                out[0] = Math.min(out[0], at[1]);
                out[1] = Math.max(out[1], at[1]);
                return;
            }
            for (int next : nextTo(at[0])) {
                if (row[i] == -1 || row[i] == next) {
                    walk(row, i + 1, new int[] {next, at[1] + wayMiles(new int[] {at[0], next}, land)}, land, out);
                }
            }
        }

        boolean isRow(int[] row, boolean gaps) {
            if (!in(row.length, 2, 12)) return false;
            for (int i = 0; i < row.length; i++) {
                boolean gap = gaps && row[i] == -1 && i > 0 && i < row.length - 1;
                if (!gap && !in(row[i], 0, 63)) return false;
            }
            boolean[] can = new boolean[64];
            can[row[0]] = true;
            for (int i = 1; i < row.length; i++) {
                boolean[] then = new boolean[64];
                for (int c = 0; c < 64; c++) {
                    for (int next : nextTo(c)) {
                        then[next] |= can[c] && (row[i] == -1 || row[i] == next);
                    }
                }
                can = then;
            }
            return can[row[row.length - 1]];
        }

        int earn(int airline, int n) {
            if (!isAirline(airline) || !in(n, 1, 99999)) return no(1);
            Airline a = airlines.get(airline);
            if (a.ended) return no(3);
            if (a.coin + n > 999999) return no(4);
            return a.coin += n;
        }

        int coin(int airline) {
            return isAirline(airline) ? airlines.get(airline).coin : no(1);
        }

        int owes(int airline, int land) {
            if (!isAirline(airline) || !in(land, -1, 7)) return no(1);
            Airline a = airlines.get(airline);
            return land == -1 ? Arrays.stream(a.owes).sum() : a.owes[land];
        }

        int pay(int airline, int land, int n) {
            if (!isAirline(airline) || !in(land, 0, 7) || !in(n, 1, 99999)) return no(1);
            Airline a = airlines.get(airline);
            if (a.owes[land] < n) return no(3);
            if (a.coin < n) return no(2);
            a.coin -= n;
            return a.owes[land] -= n;
        }

        int end(int airline) {
            if (!isAirline(airline)) return no(1);
            Airline a = airlines.get(airline);
            if (a.ended) return no(3);
            a.ended = true;
            long all = Arrays.stream(a.owes).sum();
            long[] has = new long[8];
            if (a.coin >= all) {
                for (int l = 0; l < 8; l++) has[l] = a.owes[l];
            } else {
                List<Integer> order = new ArrayList<>();
                long given = 0;
                for (int l = 0; l < 8; l++) {
                    has[l] = (long) a.coin * a.owes[l] / all;
                    given += has[l];
                    order.add(l);
                }
                long coin = a.coin;
                order.sort((p, q) -> Long.compare(coin * a.owes[q] % all, coin * a.owes[p] % all));
                for (int i = 0; given < a.coin; i++, given++) has[order.get(i)]++;
            }
            int lost = 0;
            for (int l = 0; l < 8; l++) {
                a.coin -= (int) has[l];
                lands[l].lost += a.owes[l] - (int) has[l];
                lost += a.owes[l] - (int) has[l];
                a.owes[l] = 0;
            }
            return lost;
        }

        int feed(long word, int n) {
            if (!in(n, 1, 8)) return no(1);
            if (tape.length() + n > 60) return no(4);
            for (int i = 0; i < n; i++) tape += (char) (word >> (8 * i) & 255);
            return tape.length();
        }

        int law(int use, int from) {
            if (!in(use, 0, 3) || !in(from, 0, 3000)) return no(1);
            if (laws.size() == 12) return no(4);
            String text = tape;
            tape = "";
            int fault = Texts.fault(text);
            if (fault >= 0) return -10 - fault;
            laws.add(new Law(use, from, text));
            return laws.size() - 1;
        }

        int force(int use, int day) {
            if (!in(use, 0, 3) || !in(day, 0, 3000)) return no(1);
            int law = lawOn(use, day);
            return law < 0 ? no(2) : law;
        }

        int says(int law, int plane, int flight, int land) {
            if (!in(law, 0, laws.size() - 1) || !isPlane(plane) || !in(land, -1, 7)) return no(1);
            if (flight != -1 && (!isFlight(flight) || flights.get(flight).plane != plane)) return no(1);
            return worth(law, plane, flight, land);
        }

        int file(int plane, int sheet) {
            if (!isPlane(plane) || !in(sheet, 0, 3)) return no(1);
            if (sheets[sheet] == null) return no(2);
            if (airlines.get(planes.get(plane).airline()).ended) return no(3);
            if (!isRow(numbers(sheet), false)) return no(5);
            if (flights.size() == 30) return no(4);
            Flight f = new Flight();
            f.plane = plane;
            f.filedOn = day;
            f.filed = numbers(sheet);
            flights.add(f);
            return flights.size() - 1;
        }

        int allTold() {
            int n = 0;
            for (Flight f : flights) n += f.told.size();
            return n;
        }

        int fly(int flight, int sheet) {
            if (!isFlight(flight) || !in(sheet, 0, 3)) return no(1);
            if (sheets[sheet] == null) return no(2);
            if (!isRow(numbers(sheet), true)) return no(5);
            if (allTold() == 40) return no(4);
            flights.get(flight).told.add(new Told(day, numbers(sheet)));
            return flights.get(flight).told.size();
        }

        int flightIs(int flight, int what) {
            if (!isFlight(flight) || !in(what, 0, 7)) return no(1);
            Flight f = flights.get(flight);
            switch (what) {
                case 0: return f.plane;
                case 1: return f.filedOn;
                case 2: return f.filed.length;
                case 3: return f.told.size();
                case 4: return f.billedOn == -1 ? 0 : 1;
                case 5: return f.billedOn;
                case 6: return f.doubled ? 1 : 0;
                default: return Arrays.stream(f.fees).sum();
            }
        }

        int[] known(Flight f, int k) {
            if (k == -1) return f.filed;
            int[] row = null;
            for (Told t : f.told) {
                if (t.day() <= k) row = t.row();
            }
            return row;
        }

        int row(int flight, int k, int i) {
            if (!isFlight(flight) || !in(k, -1, 3000) || i < 0) return no(1);
            int[] row = known(flights.get(flight), k);
            return row == null || i >= row.length ? no(2) : row[i];
        }

        int miles(int flight, int land, int k, int what) {
            if (!isFlight(flight) || !in(land, 0, 7) || !in(k, -1, 3000) || !in(what, 0, 2)) return no(1);
            int[] row = known(flights.get(flight), k);
            return row == null ? no(2) : choose(row, land, what);
        }

        int choose(int[] row, int land, int what) {
            int[] s = span(row, land);
            return what == 0 ? s[0] : what == 1 ? s[1] : (s[0] + s[1]) / 2;
        }

        int ask(int use, int flight, int land) {
            int law = lawOn(use, flights.get(flight).filedOn);
            return law < 0 ? 0 : worth(law, flights.get(flight).plane, flight, land);
        }

        int feeOn(int flight, int land, int[] row, int rate) {
            if (row == null || ask(0, flight, land) != 0 || flights.get(flight).doubled) return 0;
            long miles = choose(row, land, clip(ask(3, flight, land)));
            long units = miles * factor(flights.get(flight).plane, flight, land) / 100;
            return (int) (units * rate / 100);
        }

        static int clip(int gap) { return gap == 0 || gap == 1 ? gap : 2; }

        /** New fees, or null where the document says STATE. */
        int[] fees(int flight) {
            Flight f = flights.get(flight);
            int[] fees = new int[8];
            for (int l = 0; l < 8; l++) {
                boolean flown = ask(1, flight, l) != 0;
                if (ask(0, flight, l) == 0 && flown && f.told.isEmpty()) return null;
                fees[l] = feeOn(flight, l, flown ? known(f, 3000) : f.filed, f.rates[l]);
            }
            return fees;
        }

        int bill(int flight) {
            if (!isFlight(flight)) return no(1);
            Flight f = flights.get(flight);
            Airline a = airlines.get(planes.get(f.plane).airline());
            if (f.billedOn >= 0 || a.ended) return no(3);
            int[] oldRates = f.rates;
            f.rates = new int[8];
            for (int l = 0; l < 8; l++) f.rates[l] = lands[l].rate;
            int[] fees = fees(flight);
            if (fees == null) {
                f.rates = oldRates;
                return no(3);
            }
            for (Flight o : flights) {
                if (o != f && o.billedOn >= 0 && o.plane == f.plane && o.filedOn == f.filedOn
                    && Arrays.equals(o.filed, f.filed)) {
                    f.doubled = true;
                    fees = new int[8];
                }
            }
            f.billedOn = day;
            f.fees = fees;
            for (int l = 0; l < 8; l++) {
                a.owes[l] += fees[l];
                lands[l].income += fees[l];
            }
            return Arrays.stream(fees).sum();
        }

        int right(int flight) {
            if (!isFlight(flight)) return no(1);
            Flight f = flights.get(flight);
            Airline a = airlines.get(planes.get(f.plane).airline());
            if (f.billedOn < 0 || a.ended) return no(3);
            int[] fees = fees(flight);
            if (fees == null) return no(3);
            int before = Arrays.stream(f.fees).sum();
            for (int l = 0; l < 8; l++) {
                if (fees[l] >= f.fees[l]) {
                    a.owes[l] += fees[l] - f.fees[l];
                } else {
                    int less = f.fees[l] - fees[l];
                    int off = Math.min(less, a.owes[l]);
                    a.owes[l] -= off;
                    a.coin += less - off;
                }
            }
            f.fees = fees;
            return Arrays.stream(fees).sum() - before;
        }

        int fee(int flight, int land) {
            if (!isFlight(flight) || !in(land, 0, 7)) return no(1);
            return flights.get(flight).billedOn < 0 ? no(2) : flights.get(flight).fees[land];
        }

        int beside(int land, boolean flown) {
            if (!in(land, 0, 7)) return no(1);
            int sum = 0;
            for (int i = 0; i < flights.size(); i++) {
                Flight f = flights.get(i);
                if (f.billedOn >= 0) sum += feeOn(i, land, known(f, flown ? 3000 : -1), f.rates[land]);
            }
            return sum;
        }

        int go(int n) {
            if (!in(n, 1, 200) || day + n > 3000) return no(1);
            for (int i = 0; i < n; i++) {
                int year = day / 100;
                day++;
                if (day / 100 == year) continue;
                for (Airline a : airlines) {
                    for (int l = 0; l < 8; l++) a.owes[l] += a.owes[l] / 20;
                }
                for (Land l : lands) {
                    l.rests.add(l.cost - l.income);
                    long ahead = year == 0 ? 0 : l.rests.get(year - 1);
                    long v = 100 * (l.cost + ahead) / l.foretold;
                    v = Math.min(v, l.rate + l.rate / 10 + 1);
                    v = Math.max(v, l.rate - l.rate / 10 - 1);
                    l.rate = (int) Math.min(9999, Math.max(0, v));
                    l.income = 0;
                }
            }
            return day;
        }

        int fuel(int v) {
            if (!in(v, 0, 999)) return no(1);
            int was = fuel;
            fuel = v;
            return was;
        }

        record Way(int cost, List<Integer> cells) {
            boolean beats(Way o) {
                if (o == null || cost != o.cost) return o == null || cost < o.cost;
                if (cells.size() != o.cells.size()) return cells.size() < o.cells.size();
                for (int i = 0; i < cells.size(); i++) {
                    if (!cells.get(i).equals(o.cells.get(i))) return cells.get(i) < o.cells.get(i);
                }
                return false;
            }
        }

        int toll(int plane, int cell) {
            int l = own[cell];
            return l < 0 ? 0 : (int) (5L * factor(plane, -1, l) * lands[l].rate / 10000);
        }

        Way way(int plane, int from, int to) {
            Way[] best = new Way[64];
            int[] tolls = new int[64];
            if (shut[from] || shut[to]) return null;
            for (int c = 0; c < 64; c++) tolls[c] = toll(plane, c);
            best[from] = new Way(0, List.of(from));
            boolean[] fresh = new boolean[64];
            fresh[from] = true;
            for (boolean more = true; more;) {
                more = false;
                for (int c = 0; c < 64; c++) {
                    if (!fresh[c]) continue;
                    fresh[c] = false;
                    for (int next : nextTo(c)) {
                        if (shut[next]) continue;
                        List<Integer> cells = new ArrayList<>(best[c].cells());
                        cells.add(next);
                        Way w = new Way(best[c].cost() + fuel + tolls[c] + tolls[next], cells);
                        if (w.beats(best[next])) {
                            best[next] = w;
                            fresh[next] = true;
                            more = true;
                        }
                    }
                }
            }
            return best[to];
        }

        int cheapest(int plane, int from, int to, int what) {
            if (!isPlane(plane) || !in(from, 0, 63) || !in(to, 0, 63) || what < -2) return no(1);
            Way w = way(plane, from, to);
            if (w == null || what >= w.cells().size()) return no(2);
            return what == -1 ? w.cost() : what == -2 ? w.cells().size() - 1 : w.cells().get(what);
        }

        int gain(int plane, int from, int to, int land) {
            if (!isPlane(plane) || !in(from, 0, 63) || !in(to, 0, 63) || !in(land, 0, 7)) return no(1);
            Way w = way(plane, from, to);
            if (w == null) return no(2);
            int sum = 0;
            for (int i = 1; i < w.cells().size(); i++) {
                for (int c : new int[] {w.cells().get(i - 1), w.cells().get(i)}) {
                    if (own[c] == land) sum += toll(plane, c);
                }
            }
            return sum;
        }

        int voice(int plane, int act, int x) {
            if (!isPlane(plane) || !in(act, 0, 3)) return no(1);
            PlaneVoice v = PlaneVoice.of(planes.get(plane).kind());
            v.n = plane;
            v.w = planes.get(plane).weight();
            int r = act == 0 ? v.lift(x) : act == 1 ? v.hum(x) : act == 2 ? v.turn(x) : v.tell(x);
            trace = v.trace.subList(0, Math.min(40, v.trace.size()));
            return r;
        }

        int trace(int i) {
            return in(i, 0, trace.size() - 1) ? trace.get(i) : no(2);
        }

        int sheet(int sheet, int bits, int n) {
            if (!in(sheet, 0, 3) || bits != 0 && bits != 8 && bits != 16 && bits != 32) return no(1);
            if (bits == 0) {
                sheets[sheet] = null;
                return 1;
            }
            if (n < 0) return no(3);
            if (n > 24) return no(1);
            sheets[sheet] = bits == 8 ? new byte[n] : bits == 16 ? new short[n] : new int[n];
            return 1;
        }

        int put(int sheet, int i, int v) {
            if (!in(sheet, 0, 3)) return no(1);
            Object s = sheets[sheet];
            if (s == null) return no(2);
            if (!in(i, 0, numbers(sheet).length - 1)) return no(1);
            if (s instanceof byte[] b) b[i] = (byte) v;
            if (s instanceof short[] b) b[i] = (short) v;
            if (s instanceof int[] b) b[i] = v;
            return 1;
        }

        int move(int sheet, int i, int other, int j, int n) {
            if (!in(sheet, 0, 3) || !in(other, 0, 3)) return no(1);
            if (sheets[sheet] == null || sheets[other] == null) return no(2);
            if (sheets[sheet].getClass() != sheets[other].getClass()) return no(5);
            int[] row = numbers(sheet);
            if (n < 0 || i < 0 || j < 0 || (long) i + n > row.length || (long) j + n > numbers(other).length) {
                return no(1);
            }
            for (int k = 0; k < n; k++) {
                put(other, j + k, row[i + k]);
            }
            return n;
        }

        int image() {
            kept = new Model();
            kept.take(this);
            return ++images;
        }

        int restore() {
            if (kept == null) return no(2);
            take(kept);
            return day;
        }

        int told(int what) {
            int sum = 0;
            switch (what) {
                case 0: return airlines.size();
                case 1:
                    for (Airline a : airlines) sum += a.ended ? 1 : 0;
                    return sum;
                case 2: return planes.size();
                case 3: return laws.size();
                case 4: return flights.size();
                case 5:
                    for (Flight f : flights) sum += f.billedOn >= 0 ? 1 : 0;
                    return sum;
                case 6: return allTold();
                case 7: return day;
                case 8: return tape.length();
                case 9:
                    for (Airline a : airlines) sum += Arrays.stream(a.owes).sum();
                    return sum;
                case 10:
                    for (Land l : lands) sum += l.lost;
                    return sum;
                case 11:
                    for (Airline a : airlines) sum += a.coin;
                    return sum;
                case 12: return trace.size();
                default: return no(1);
            }
        }

        int found(int k) {
            return in(k, 1, 5) ? found[k] : no(1);
        }
    }
}
