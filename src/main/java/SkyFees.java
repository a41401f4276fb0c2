import java.util.Arrays;

/** Fees for the sky, as ../shared/DOC.md promises them. */
public final class SkyFees {
    private static final int LOW = -1000000;
    private static final int BEYOND = 1;
    private static final int NONE = 2;
    private static final int STATE = 3;
    private static final int FULL = 4;
    private static final int KIND = 5;

    private static final int CELLS = 64;
    private static final int SIDE = 8;
    private static final int LANDS = 8;
    private static final int LAST_DAY = 3000;
    private static final int YEAR = 100;
    private static final int MOST_RATE = 9999;
    private static final int MOST_COST = 9999;
    private static final int MOST_FORETOLD = 9999;
    private static final int MOST_FUEL = 999;
    private static final int MOST_FACTOR = 9999;

    private static final int AIRLINES = 8;
    private static final int PLANES = 12;
    private static final int KINDS = 6;
    private static final int MOST_WEIGHT = 600;
    private static final int MOST_COIN = 999999;
    private static final int MOST_PAID = 99999;

    private static final int TAPE = 60;
    private static final int MOST_OPEN = 5;
    private static final int LAWS = 12;
    private static final int USES = 4;
    /** Code of a law: a number as it is, a name n as NAME - n, a sign s as SIGN - s. */
    private static final int NAMES = 6;
    private static final int NAME = -1;
    private static final int SIGN = -100;
    private static final int FREE = 0;
    private static final int BASE = 1;
    private static final int FACTOR = 2;
    private static final int GAP = 3;

    private static final int FLIGHTS = 30;
    private static final int TOLD = 40;
    private static final int ROW = 12;
    private static final int ROWS = FLIGHTS + TOLD;

    private static final int SHEETS = 4;
    private static final int SHEET = 24;
    private static final int ACTS = 4;
    private static final int TRACE = 40;

    /** The kind above each kind. */
    private static final int[] ABOVE = {-1, 0, 1, 0, 0, 3};

    /** The body of each kind for each act, lift, hum, turn, tell; 0 where the kind has none. */
    private static final int[] BODIES = {
        10, 11, 12, 13,
        20, 0, 0, 21,
        31, 0, 30, 0,
        0, 40, 0, 0,
        0, 0, 0, 50,
        0, 61, 60, 0};

    private final Sky sky = new Sky();
    private final Fleet fleet = new Fleet();
    private final Treaty treaty = new Treaty();
    private final Flights flights = new Flights();
    private final Sky keptSky = new Sky();
    private final Fleet keptFleet = new Fleet();
    private final Treaty keptTreaty = new Treaty();
    private final Flights keptFlights = new Flights();
    private final Reader reader = new Reader();
    private final Court court = new Court(sky, fleet, treaty, flights);
    private final Billing billing = new Billing(sky, fleet, flights, court);
    private final Routes routes = new Routes(sky, court);
    private final Voices voices = new Voices();
    private final Sheets sheets = new Sheets();
    private final int[] findings = new int[KIND + 1];
    private int images;

    public SkyFees() {
    }

    // ---- the sky

    public int cell(int cell, int land) {
        if (!isCell(cell) || !isLandOrNone(land)) {
            return finding(BEYOND);
        }
        int before = sky.owner[cell];
        sky.owner[cell] = land;
        return before;
    }

    public int block(int sheet, int from) {
        if (!isSheet(sheet) || !isCell(from)) {
            return finding(BEYOND);
        }
        if (sheets.isMissing(sheet)) {
            return finding(NONE);
        }
        int n = sheets.sizeOf(sheet);
        if (from + n > CELLS) {
            return finding(STATE);
        }
        for (int i = 0; i < n; i++) {
            if (!isLandOrNone(sheets.numberAt(sheet, i))) {
                return finding(KIND);
            }
        }
        for (int i = 0; i < n; i++) {
            sky.owner[from + i] = sheets.numberAt(sheet, i);
        }
        return n;
    }

    public int shut(int cell, boolean is) {
        if (!isCell(cell)) {
            return finding(BEYOND);
        }
        boolean before = sky.shut[cell];
        sky.shut[cell] = is;
        return before == is ? 0 : 1;
    }

    public int land(int land, int cost, int foretold) {
        if (!isLand(land) || !within(cost, 0, MOST_COST) || !within(foretold, 1, MOST_FORETOLD)) {
            return finding(BEYOND);
        }
        int before = sky.cost[land];
        sky.cost[land] = cost;
        sky.foretold[land] = foretold;
        return before;
    }

    public int landIs(int land, int what) {
        if (!isLand(land)) {
            return finding(BEYOND);
        }
        switch (what) {
            case 0:
                return sky.cost[land];
            case 1:
                return sky.foretold[land];
            case 2:
                return sky.rate[land];
            case 3:
                return sky.income[land];
            case 4:
                return sky.rest[land];
            case 5:
                return sky.cellsOf(land);
            case 6:
                return fleet.owedTo(land);
            case 7:
                return sky.lost[land];
            default:
                return finding(BEYOND);
        }
    }

    public int rate(int land, int v) {
        if (!isLand(land) || !within(v, 0, MOST_RATE)) {
            return finding(BEYOND);
        }
        int before = sky.rate[land];
        sky.rate[land] = v;
        return before;
    }

    // ---- airlines, planes

    public int airline(int coin) {
        if (!within(coin, 0, MOST_COIN)) {
            return finding(BEYOND);
        }
        if (fleet.airlines >= AIRLINES) {
            return finding(FULL);
        }
        return fleet.addAirline(coin);
    }

    public int plane(int kind, int airline, int weight) {
        if (!isKind(kind) || !fleet.hasAirline(airline) || !within(weight, 1, MOST_WEIGHT)) {
            return finding(BEYOND);
        }
        if (fleet.ended[airline]) {
            return finding(STATE);
        }
        if (fleet.planes >= PLANES) {
            return finding(FULL);
        }
        return fleet.addPlane(kind, airline, weight);
    }

    public int as(int plane, int kind) {
        if (!fleet.hasPlane(plane) || !isKind(kind)) {
            return finding(BEYOND);
        }
        if (!isUnder(fleet.kind[plane], kind)) {
            return finding(KIND);
        }
        return fleet.weight[plane];
    }

    public int planeIs(int plane, int what) {
        if (!fleet.hasPlane(plane)) {
            return finding(BEYOND);
        }
        switch (what) {
            case 0:
                return fleet.kind[plane];
            case 1:
                return fleet.line[plane];
            case 2:
                return fleet.weight[plane];
            case 3:
                return court.factorOf(plane, -1, -1);
            default:
                return finding(BEYOND);
        }
    }

    public int earn(int airline, int n) {
        if (!fleet.hasAirline(airline) || !within(n, 1, MOST_PAID)) {
            return finding(BEYOND);
        }
        if (fleet.ended[airline]) {
            return finding(STATE);
        }
        if (fleet.purse[airline] + n > MOST_COIN) {
            return finding(FULL);
        }
        fleet.purse[airline] += n;
        return fleet.purse[airline];
    }

    public int coin(int airline) {
        if (!fleet.hasAirline(airline)) {
            return finding(BEYOND);
        }
        return fleet.purse[airline];
    }

    public int owes(int airline, int land) {
        if (!fleet.hasAirline(airline) || !isLandOrNone(land)) {
            return finding(BEYOND);
        }
        return land < 0 ? fleet.owedBy(airline) : fleet.debt[airline * LANDS + land];
    }

    public int pay(int airline, int land, int n) {
        if (!fleet.hasAirline(airline) || !isLand(land) || !within(n, 1, MOST_PAID)) {
            return finding(BEYOND);
        }
        int at = airline * LANDS + land;
        if (fleet.debt[at] < n) {
            return finding(STATE);
        }
        if (fleet.purse[airline] < n) {
            return finding(NONE);
        }
        fleet.debt[at] -= n;
        fleet.purse[airline] -= n;
        return fleet.debt[at];
    }

    public int end(int airline) {
        if (!fleet.hasAirline(airline)) {
            return finding(BEYOND);
        }
        if (fleet.ended[airline]) {
            return finding(STATE);
        }
        fleet.ended[airline] = true;
        return fleet.partAmongLands(airline, sky);
    }

    // ---- the treaty

    public int feed(long word, int n) {
        if (!within(n, 1, 8)) {
            return finding(BEYOND);
        }
        if (treaty.tapeSize + n > TAPE) {
            return finding(FULL);
        }
        return treaty.takeBytes(word, n);
    }

    public int law(int use, int from) {
        if (!isUse(use) || !isDay(from)) {
            return finding(BEYOND);
        }
        if (treaty.laws >= LAWS) {
            return finding(FULL);
        }
        int fault = reader.faultOf(treaty.tape, treaty.tapeSize);
        treaty.tapeSize = 0;
        return fault >= 0 ? -10 - fault : treaty.addLaw(use, from, reader);
    }

    public int force(int use, int day) {
        if (!isUse(use) || !isDay(day)) {
            return finding(BEYOND);
        }
        int law = treaty.inForce(use, day);
        return law < 0 ? finding(NONE) : law;
    }

    public int says(int law, int plane, int flight, int land) {
        if (!treaty.hasLaw(law) || !fleet.hasPlane(plane) || !isLandOrNone(land)) {
            return finding(BEYOND);
        }
        if (flight != -1 && (!flights.has(flight) || flights.plane[flight] != plane)) {
            return finding(BEYOND);
        }
        return court.lawSays(law, plane, flight, land);
    }

    // ---- flights

    public int file(int plane, int sheet) {
        if (!fleet.hasPlane(plane) || !isSheet(sheet)) {
            return finding(BEYOND);
        }
        if (sheets.isMissing(sheet)) {
            return finding(NONE);
        }
        if (fleet.hasEnded(fleet.line[plane])) {
            return finding(STATE);
        }
        if (!sheets.isRow(sheet, false)) {
            return finding(KIND);
        }
        if (flights.count >= FLIGHTS) {
            return finding(FULL);
        }
        return flights.addFiled(plane, sky.day, sheets, sheet);
    }

    public int fly(int flight, int sheet) {
        if (!flights.has(flight) || !isSheet(sheet)) {
            return finding(BEYOND);
        }
        if (sheets.isMissing(sheet)) {
            return finding(NONE);
        }
        if (!sheets.isRow(sheet, true)) {
            return finding(KIND);
        }
        if (flights.told >= TOLD) {
            return finding(FULL);
        }
        flights.addFlown(flight, sky.day, sheets, sheet);
        return flights.toldOf(flight);
    }

    public int flightIs(int flight, int what) {
        if (!flights.has(flight)) {
            return finding(BEYOND);
        }
        switch (what) {
            case 0:
                return flights.plane[flight];
            case 1:
                return flights.day[flight];
            case 2:
                return flights.size[flight];
            case 3:
                return flights.toldOf(flight);
            case 4:
                return flights.billedOn[flight] >= 0 ? 1 : 0;
            case 5:
                return flights.billedOn[flight];
            case 6:
                return flights.doubled[flight] ? 1 : 0;
            case 7:
                return flights.feesOf(flight);
            default:
                return finding(BEYOND);
        }
    }

    public int row(int flight, int k, int i) {
        if (!flights.has(flight) || !within(k, -1, LAST_DAY) || i < 0) {
            return finding(BEYOND);
        }
        int row = flights.rowKnown(flight, k);
        if (!isRowPlace(row) || i >= ROW || i >= flights.size[row]) {
            return finding(NONE);
        }
        return flights.numbers[row * ROW + i];
    }

    public int miles(int flight, int land, int k, int what) {
        if (!flights.has(flight) || !isLand(land) || !within(k, -1, LAST_DAY) || !within(what, 0, 2)) {
            return finding(BEYOND);
        }
        int row = flights.rowKnown(flight, k);
        if (row < 0) {
            return finding(NONE);
        }
        return billing.milesBy(row, land, what);
    }

    public int bill(int flight) {
        if (!flights.has(flight)) {
            return finding(BEYOND);
        }
        if (flights.billedOn[flight] >= 0 || hasItsAirlineEnded(flight) || !billing.canBill(flight)) {
            return finding(STATE);
        }
        billing.startBill(flight);
        int fees = billing.chargeAnew(flight);
        billing.bookIncome(flight);
        return fees;
    }

    public int right(int flight) {
        if (!flights.has(flight)) {
            return finding(BEYOND);
        }
        if (flights.billedOn[flight] < 0 || hasItsAirlineEnded(flight) || !billing.canBill(flight)) {
            return finding(STATE);
        }
        return billing.chargeAnew(flight);
    }

    public int fee(int flight, int land) {
        if (!flights.has(flight) || !isLand(land)) {
            return finding(BEYOND);
        }
        if (flights.billedOn[flight] < 0) {
            return finding(NONE);
        }
        return flights.fees[flight * LANDS + land];
    }

    public int beside(int land, boolean flown) {
        if (!isLand(land)) {
            return finding(BEYOND);
        }
        return billing.sumByOneBase(land, flown);
    }

    // ---- days, ways

    public int go(int n) {
        if (!within(n, 1, 200) || sky.day + n > LAST_DAY) {
            return finding(BEYOND);
        }
        for (int i = 0; i < n; i++) {
            sky.day++;
            if (sky.day % YEAR == 0) {
                fleet.addLateness();
                sky.endYear();
            }
        }
        return sky.day;
    }

    public int fuel(int v) {
        if (!within(v, 0, MOST_FUEL)) {
            return finding(BEYOND);
        }
        int before = sky.fuelPrice;
        sky.fuelPrice = v;
        return before;
    }

    public int cheapest(int plane, int from, int to, int what) {
        if (!fleet.hasPlane(plane) || !isCell(from) || !isCell(to) || what < -2) {
            return finding(BEYOND);
        }
        if (!routes.findWay(plane, from, to)) {
            return finding(NONE);
        }
        if (what == -1) {
            return routes.costOfWay();
        }
        if (what == -2) {
            return routes.steps;
        }
        return what > routes.steps || what >= CELLS ? finding(NONE) : routes.way[what];
    }

    public int gain(int plane, int from, int to, int land) {
        if (!fleet.hasPlane(plane) || !isCell(from) || !isCell(to) || !isLand(land)) {
            return finding(BEYOND);
        }
        if (!routes.findWay(plane, from, to)) {
            return finding(NONE);
        }
        return routes.tollsOfWay(land);
    }

    // ---- voices, sheets, images

    public int voice(int plane, int act, int x) {
        if (!fleet.hasPlane(plane) || !within(act, 0, ACTS - 1)) {
            return finding(BEYOND);
        }
        return voices.begin(plane, fleet, act, x);
    }

    public int trace(int i) {
        if (i < 0 || i >= voices.begun || i >= TRACE) {
            return finding(NONE);
        }
        return voices.bodies[i];
    }

    public int sheet(int sheet, int bits, int n) {
        if (!isSheet(sheet) || !isWidth(bits)) {
            return finding(BEYOND);
        }
        if (bits != 0 && n < 0) {
            return finding(STATE);
        }
        if (bits != 0 && n > SHEET) {
            return finding(BEYOND);
        }
        sheets.makeAnew(sheet, bits, n);
        return 1;
    }

    public int put(int sheet, int i, int v) {
        if (!isSheet(sheet)) {
            return finding(BEYOND);
        }
        if (sheets.isMissing(sheet)) {
            return finding(NONE);
        }
        if (!within(i, 0, sheets.sizeOf(sheet) - 1)) {
            return finding(BEYOND);
        }
        sheets.setNumber(sheet, i, v);
        return 1;
    }

    public int move(int sheet, int i, int other, int j, int n) {
        if (!isSheet(sheet) || !isSheet(other)) {
            return finding(BEYOND);
        }
        if (sheets.isMissing(sheet) || sheets.isMissing(other)) {
            return finding(NONE);
        }
        if (sheets.bits[sheet] != sheets.bits[other]) {
            return finding(KIND);
        }
        if (!sheets.stand(sheet, i, n) || !sheets.stand(other, j, n)) {
            return finding(BEYOND);
        }
        System.arraycopy(sheets.numbers, sheet * SHEET + i, sheets.numbers, other * SHEET + j, n);
        return n;
    }

    public int image() {
        keptSky.takeFrom(sky);
        keptFleet.takeFrom(fleet);
        keptTreaty.takeFrom(treaty);
        keptFlights.takeFrom(flights);
        images++;
        return images;
    }

    public int restore() {
        if (images == 0) {
            return finding(NONE);
        }
        sky.takeFrom(keptSky);
        fleet.takeFrom(keptFleet);
        treaty.takeFrom(keptTreaty);
        flights.takeFrom(keptFlights);
        return sky.day;
    }

    public int told(int what) {
        switch (what) {
            case 0:
                return fleet.airlines;
            case 1:
                return fleet.endedOnes();
            case 2:
                return fleet.planes;
            case 3:
                return treaty.laws;
            case 4:
                return flights.count;
            case 5:
                return flights.billedOnes();
            case 6:
                return flights.told;
            case 7:
                return sky.day;
            case 8:
                return treaty.tapeSize;
            case 9:
                return sumOf(fleet.debt);
            case 10:
                return sumOf(sky.lost);
            case 11:
                return sumOf(fleet.purse);
            case 12:
                return voices.begun;
            default:
                return finding(BEYOND);
        }
    }

    public int found(int k) {
        if (!within(k, 1, KIND)) {
            return finding(BEYOND);
        }
        return findings[k];
    }

    private int finding(int k) {
        if (within(k, 1, KIND)) {
            findings[k]++;
        }
        return LOW - k;
    }

    private boolean hasItsAirlineEnded(int flight) {
        return fleet.hasEnded(fleet.lineOf(flights.plane[flight]));
    }

    private static boolean within(int v, int least, int most) {
        return v >= least && v <= most;
    }

    private static boolean isCell(int cell) {
        return cell >= 0 && cell < CELLS;
    }

    private static boolean isLand(int land) {
        return land >= 0 && land < LANDS;
    }

    private static boolean isLandOrNone(int land) {
        return land >= -1 && land < LANDS;
    }

    private static boolean isKind(int kind) {
        return kind >= 0 && kind < KINDS;
    }

    private static boolean isUse(int use) {
        return use >= 0 && use < USES;
    }

    private static boolean isDay(int day) {
        return day >= 0 && day <= LAST_DAY;
    }

    private static boolean isSheet(int sheet) {
        return sheet >= 0 && sheet < SHEETS;
    }

    private static boolean isRowPlace(int row) {
        return row >= 0 && row < ROWS;
    }

    private static boolean isWidth(int bits) {
        return bits == 0 || bits == 8 || bits == 16 || bits == 32;
    }

    private static boolean isUnder(int kind, int above) {
        int k = kind;
        for (int i = 0; i < KINDS && isKind(k); i++) {
            if (k == above) {
                return true;
            }
            k = ABOVE[k];
        }
        return false;
    }

    private static int sumOf(int[] numbers) {
        int sum = 0;
        for (int i = 0; i < numbers.length; i++) {
            sum += numbers[i];
        }
        return sum;
    }

    /** The cell on a side of a cell, the sides in the order of their cells' numbers; -1 at the rim. */
    private static int nextTo(int cell, int side) {
        int column = cell % SIDE;
        switch (side) {
            case 0:
                return cell >= SIDE ? cell - SIDE : -1;
            case 1:
                return column > 0 ? cell - 1 : -1;
            case 2:
                return column < SIDE - 1 ? cell + 1 : -1;
            default:
                return cell < CELLS - SIDE ? cell + SIDE : -1;
        }
    }

    /** Whose each cell is, which cells are shut, what each land asks and has, the day. */
    private static final class Sky {
        final int[] owner = new int[CELLS];
        final boolean[] shut = new boolean[CELLS];
        final int[] cost = new int[LANDS];
        final int[] foretold = new int[LANDS];
        final int[] rate = new int[LANDS];
        final int[] income = new int[LANDS];
        final int[] rest = new int[LANDS];
        final int[] lost = new int[LANDS];
        int day;
        int fuelPrice = 10;

        Sky() {
            Arrays.fill(owner, -1);
            Arrays.fill(foretold, 1000);
            Arrays.fill(rate, 100);
        }

        int ownerOf(int cell) {
            return cell >= 0 && cell < CELLS ? owner[cell] : -1;
        }

        int cellsOf(int land) {
            int n = 0;
            for (int c = 0; c < CELLS; c++) {
                if (owner[c] == land) {
                    n++;
                }
            }
            return n;
        }

        void endYear() {
            for (int land = 0; land < LANDS; land++) {
                // the rate is set by the rest of the year ahead, so this comes before the rest is replaced
                rate[land] = nextRate(land);
                rest[land] = cost[land] - income[land];
                income[land] = 0;
            }
        }

        private int nextRate(int land) {
            int old = rate[land];
            long wanted = 100L * ((long) cost[land] + rest[land]);
            if (foretold[land] > 0) {
                wanted = wanted / foretold[land];
            }
            long bounded = Math.min(wanted, old + old / 10 + 1);
            bounded = Math.max(bounded, old - old / 10 - 1);
            return (int) Math.max(0L, Math.min(bounded, MOST_RATE));
        }

        void takeFrom(Sky other) {
            System.arraycopy(other.owner, 0, owner, 0, CELLS);
            System.arraycopy(other.shut, 0, shut, 0, CELLS);
            System.arraycopy(other.cost, 0, cost, 0, LANDS);
            System.arraycopy(other.foretold, 0, foretold, 0, LANDS);
            System.arraycopy(other.rate, 0, rate, 0, LANDS);
            System.arraycopy(other.income, 0, income, 0, LANDS);
            System.arraycopy(other.rest, 0, rest, 0, LANDS);
            System.arraycopy(other.lost, 0, lost, 0, LANDS);
            day = other.day;
            fuelPrice = other.fuelPrice;
        }
    }

    /** Airlines with their coin and debts, and their planes. */
    private static final class Fleet {
        int airlines;
        final int[] purse = new int[AIRLINES];
        final boolean[] ended = new boolean[AIRLINES];
        final int[] debt = new int[AIRLINES * LANDS];
        int planes;
        final int[] kind = new int[PLANES];
        final int[] line = new int[PLANES];
        final int[] weight = new int[PLANES];
        private final long[] remainder = new long[LANDS];

        boolean hasAirline(int airline) {
            return airline >= 0 && airline < airlines && airline < AIRLINES;
        }

        boolean hasPlane(int plane) {
            return plane >= 0 && plane < planes && plane < PLANES;
        }

        boolean hasEnded(int airline) {
            return hasAirline(airline) && ended[airline];
        }

        int lineOf(int plane) {
            return hasPlane(plane) ? line[plane] : -1;
        }

        int addAirline(int coin) {
            int airline = airlines;
            if (airline >= 0 && airline < AIRLINES) {
                purse[airline] = coin;
                airlines++;
            }
            return airline;
        }

        int addPlane(int ofKind, int airline, int heavy) {
            int plane = planes;
            if (plane >= 0 && plane < PLANES) {
                kind[plane] = ofKind;
                line[plane] = airline;
                weight[plane] = heavy;
                planes++;
            }
            return plane;
        }

        int endedOnes() {
            int n = 0;
            for (int a = 0; a < airlines && a < AIRLINES; a++) {
                if (ended[a]) {
                    n++;
                }
            }
            return n;
        }

        int owedBy(int airline) {
            int sum = 0;
            for (int land = 0; land < LANDS && hasAirline(airline); land++) {
                sum += debt[airline * LANDS + land];
            }
            return sum;
        }

        int owedTo(int land) {
            int sum = 0;
            for (int a = 0; a < AIRLINES && isLand(land); a++) {
                sum += debt[a * LANDS + land];
            }
            return sum;
        }

        void addLateness() {
            for (int i = 0; i < debt.length; i++) {
                debt[i] += debt[i] / 20;
            }
        }

        /** What is owed changes; of a change down what was paid already comes back as coin. */
        void changeDebt(int airline, int land, int more) {
            if (!hasAirline(airline) || !isLand(land)) {
                return;
            }
            int at = airline * LANDS + land;
            int owed = debt[at] + more;
            if (owed < 0) {
                purse[airline] -= owed;
                owed = 0;
            }
            debt[at] = owed;
        }

        /** The coin goes to those it is owed to; what could not be paid is noted as lost by land. */
        int partAmongLands(int airline, Sky sky) {
            if (!hasAirline(airline)) {
                return 0;
            }
            int all = owedBy(airline);
            if (all <= purse[airline]) {
                purse[airline] -= all;
                Arrays.fill(debt, airline * LANDS, airline * LANDS + LANDS, 0);
                return 0;
            }
            int left = payShares(airline, all);
            for (int i = 0; i < LANDS && left > 0; i++) {
                payOneMore(airline);
                left--;
            }
            purse[airline] = 0;
            return loseDebts(airline, sky);
        }

        private int payShares(int airline, int all) {
            int coin = purse[airline];
            int left = coin;
            for (int land = 0; land < LANDS && all > 0; land++) {
                int at = airline * LANDS + land;
                long part = (long) coin * debt[at];
                int share = (int) (part / all);
                remainder[land] = part % all;
                debt[at] -= share;
                left -= share;
            }
            return left;
        }

        private void payOneMore(int airline) {
            int best = 0;
            for (int land = 1; land < LANDS; land++) {
                if (remainder[land] > remainder[best]) {
                    best = land;
                }
            }
            debt[airline * LANDS + best]--;
            remainder[best] = -1;
        }

        private int loseDebts(int airline, Sky sky) {
            int sum = 0;
            for (int land = 0; land < LANDS; land++) {
                int at = airline * LANDS + land;
                sky.lost[land] += debt[at];
                sum += debt[at];
                debt[at] = 0;
            }
            return sum;
        }

        void takeFrom(Fleet other) {
            airlines = other.airlines;
            System.arraycopy(other.purse, 0, purse, 0, AIRLINES);
            System.arraycopy(other.ended, 0, ended, 0, AIRLINES);
            System.arraycopy(other.debt, 0, debt, 0, AIRLINES * LANDS);
            planes = other.planes;
            System.arraycopy(other.kind, 0, kind, 0, PLANES);
            System.arraycopy(other.line, 0, line, 0, PLANES);
            System.arraycopy(other.weight, 0, weight, 0, PLANES);
        }
    }

    /** The tape and the laws that were read from it. */
    private static final class Treaty {
        final byte[] tape = new byte[TAPE];
        int tapeSize;
        int laws;
        final int[] use = new int[LAWS];
        final int[] from = new int[LAWS];
        final int[] size = new int[LAWS];
        final int[] code = new int[LAWS * TAPE];

        boolean hasLaw(int law) {
            return law >= 0 && law < laws && law < LAWS;
        }

        int takeBytes(long word, int n) {
            for (int i = 0; i < n && tapeSize < TAPE; i++) {
                tape[tapeSize] = (byte) (word >>> (8 * i));
                tapeSize++;
            }
            return tapeSize;
        }

        int addLaw(int ofUse, int fromDay, Reader reader) {
            int law = laws;
            if (law >= 0 && law < LAWS && within(reader.size, 0, TAPE)) {
                use[law] = ofUse;
                from[law] = fromDay;
                size[law] = reader.size;
                System.arraycopy(reader.code, 0, code, law * TAPE, reader.size);
                laws++;
            }
            return law;
        }

        int inForce(int ofUse, int day) {
            for (int law = LAWS - 1; law >= 0; law--) {
                if (law < laws && use[law] == ofUse && from[law] <= day) {
                    return law;
                }
            }
            return -1;
        }

        void takeFrom(Treaty other) {
            System.arraycopy(other.tape, 0, tape, 0, TAPE);
            tapeSize = other.tapeSize;
            laws = other.laws;
            System.arraycopy(other.use, 0, use, 0, LAWS);
            System.arraycopy(other.from, 0, from, 0, LAWS);
            System.arraycopy(other.size, 0, size, 0, LAWS);
            System.arraycopy(other.code, 0, code, 0, LAWS * TAPE);
        }
    }

    /** Flights, and all rows of cells: first a filed one for each flight, then those told as flown. */
    private static final class Flights {
        int count;
        final int[] plane = new int[FLIGHTS];
        final int[] day = new int[FLIGHTS];
        final int[] billedOn = new int[FLIGHTS];
        final boolean[] doubled = new boolean[FLIGHTS];
        final int[] fees = new int[FLIGHTS * LANDS];
        final int[] rates = new int[FLIGHTS * LANDS];
        int told;
        final int[] toldFlight = new int[TOLD];
        final int[] toldDay = new int[TOLD];
        final int[] size = new int[ROWS];
        final int[] numbers = new int[ROWS * ROW];

        Flights() {
            Arrays.fill(billedOn, -1);
        }

        boolean has(int flight) {
            return flight >= 0 && flight < count && flight < FLIGHTS;
        }

        int addFiled(int ofPlane, int onDay, Sheets sheets, int sheet) {
            int flight = count;
            if (flight >= 0 && flight < FLIGHTS) {
                plane[flight] = ofPlane;
                day[flight] = onDay;
                keepRow(flight, sheets, sheet);
                count++;
            }
            return flight;
        }

        void addFlown(int flight, int onDay, Sheets sheets, int sheet) {
            if (told >= 0 && told < TOLD) {
                toldFlight[told] = flight;
                toldDay[told] = onDay;
                keepRow(FLIGHTS + told, sheets, sheet);
                told++;
            }
        }

        private void keepRow(int row, Sheets sheets, int sheet) {
            int n = Math.min(sheets.sizeOf(sheet), ROW);
            if (!isRowPlace(row)) {
                return;
            }
            size[row] = n;
            for (int i = 0; i < n; i++) {
                numbers[row * ROW + i] = sheets.numberAt(sheet, i);
            }
        }

        int toldOf(int flight) {
            int n = 0;
            for (int t = 0; t < told && t < TOLD; t++) {
                if (toldFlight[t] == flight) {
                    n++;
                }
            }
            return n;
        }

        /** The place of the filed row (k -1) or of the one known on day k; -1 if there is none. */
        int rowKnown(int flight, int k) {
            if (k == -1) {
                return flight;
            }
            for (int t = TOLD - 1; t >= 0; t--) {
                if (t < told && toldFlight[t] == flight && toldDay[t] <= k) {
                    return FLIGHTS + t;
                }
            }
            return -1;
        }

        int feesOf(int flight) {
            int sum = 0;
            for (int land = 0; land < LANDS && has(flight); land++) {
                sum += fees[flight * LANDS + land];
            }
            return sum;
        }

        int billedOnes() {
            int n = 0;
            for (int f = 0; f < count && f < FLIGHTS; f++) {
                if (billedOn[f] >= 0) {
                    n++;
                }
            }
            return n;
        }

        boolean hasBilledTwin(int flight) {
            for (int f = 0; f < count && f < FLIGHTS; f++) {
                if (f != flight && billedOn[f] >= 0 && areTwins(f, flight)) {
                    return true;
                }
            }
            return false;
        }

        private boolean areTwins(int one, int other) {
            if (!has(one) || !has(other)) {
                return false;
            }
            if (plane[one] != plane[other] || day[one] != day[other] || size[one] != size[other]) {
                return false;
            }
            for (int i = 0; i < size[one] && i < ROW; i++) {
                if (numbers[one * ROW + i] != numbers[other * ROW + i]) {
                    return false;
                }
            }
            return true;
        }

        void takeFrom(Flights other) {
            count = other.count;
            System.arraycopy(other.plane, 0, plane, 0, FLIGHTS);
            System.arraycopy(other.day, 0, day, 0, FLIGHTS);
            System.arraycopy(other.billedOn, 0, billedOn, 0, FLIGHTS);
            System.arraycopy(other.doubled, 0, doubled, 0, FLIGHTS);
            System.arraycopy(other.fees, 0, fees, 0, FLIGHTS * LANDS);
            System.arraycopy(other.rates, 0, rates, 0, FLIGHTS * LANDS);
            told = other.told;
            System.arraycopy(other.toldFlight, 0, toldFlight, 0, TOLD);
            System.arraycopy(other.toldDay, 0, toldDay, 0, TOLD);
            System.arraycopy(other.size, 0, size, 0, ROWS);
            System.arraycopy(other.numbers, 0, numbers, 0, ROWS * ROW);
        }
    }

    /** Reads a text into code that a stack works out: first what a sign joins, then the sign. */
    private static final class Reader {
        private static final int COMPARISON = 2;
        private static final int SMALLEST = 5;
        private static final int END = -1;

        final int[] code = new int[TAPE];
        int size;
        private byte[] text = new byte[0];
        private int bytes;
        private int place;
        private int fault;

        /** The place of the first byte with which no text goes on; -1 if this is a text. */
        int faultOf(byte[] tape, int n) {
            text = tape;
            bytes = Math.min(n, tape.length);
            size = 0;
            place = 0;
            fault = -1;
            readLevel(0, 0);
            if (place < bytes) {
                noteFault();
            }
            return fault;
        }

        private void noteFault() {
            if (fault < 0) {
                fault = place;
            }
        }

        private int sign() {
            return place >= 0 && place < bytes && place < text.length ? text[place] & 255 : END;
        }

        private void emit(int what) {
            if (size >= 0 && size < TAPE) {
                code[size] = what;
                size++;
            }
        }

        /** Level 0 is a whole text, and each level above it what the one below joins. */
        private void readLevel(int level, int open) {
            if (level >= SMALLEST) {
                readSmallest(open);
                return;
            }
            readLevel(level + 1, open);
            for (int i = 0; i < TAPE && fault < 0 && levelOf(sign()) == level; i++) {
                int sign = sign();
                place++;
                readLevel(level + 1, open);
                emit(SIGN - sign);
                if (level == COMPARISON) {
                    return;
                }
            }
        }

        private void readSmallest(int open) {
            int sign = sign();
            int name = nameOf(sign);
            if (isDigit(sign)) {
                readNumber();
            } else if (name >= 0) {
                place++;
                emit(NAME - name);
            } else if (open < MOST_OPEN && sign == '!') {
                place++;
                readSmallest(open + 1);
                emit(SIGN - sign);
            } else if (open < MOST_OPEN && sign == '(') {
                place++;
                readLevel(0, open + 1);
                readClosing();
            } else {
                noteFault();
            }
        }

        private void readClosing() {
            if (fault < 0 && sign() == ')') {
                place++;
            } else {
                noteFault();
            }
        }

        private void readNumber() {
            int value = 0;
            for (int i = 0; i < 4 && isDigit(sign()); i++) {
                value = value * 10 + sign() - '0';
                place++;
            }
            emit(value);
        }

        private static boolean isDigit(int sign) {
            return sign >= '0' && sign <= '9';
        }

        private static int nameOf(int sign) {
            switch (sign) {
                case 'w':
                    return 0;
                case 'k':
                    return 1;
                case 'a':
                    return 2;
                case 'm':
                    return 3;
                case 'd':
                    return 4;
                case 'l':
                    return 5;
                default:
                    return -1;
            }
        }

        private static int levelOf(int sign) {
            switch (sign) {
                case '|':
                    return 0;
                case '&':
                    return 1;
                case '<':
                case '=':
                case '>':
                    return COMPARISON;
                case '+':
                case '-':
                    return 3;
                case '*':
                case '/':
                    return 4;
                default:
                    return -1;
            }
        }
    }

    /** Asks the laws: of a plane, and of a flight for the day on which it was filed. */
    private static final class Court {
        private final Sky sky;
        private final Fleet fleet;
        private final Treaty treaty;
        private final Flights flights;
        private final int[] names = new int[NAMES];
        private final int[] stack = new int[TAPE];

        Court(Sky sky, Fleet fleet, Treaty treaty, Flights flights) {
            this.sky = sky;
            this.fleet = fleet;
            this.treaty = treaty;
            this.flights = flights;
        }

        int lawSays(int law, int plane, int flight, int land) {
            if (!treaty.hasLaw(law) || !fleet.hasPlane(plane)) {
                return 0;
            }
            names[0] = fleet.weight[plane];
            names[1] = fleet.kind[plane];
            names[2] = fleet.line[plane];
            names[3] = allMiles(flight);
            names[4] = dayOf(flight);
            names[5] = land;
            return workOut(law);
        }

        private int workOut(int law) {
            int top = 0;
            int n = Math.min(treaty.size[law], TAPE);
            for (int i = 0; i < n; i++) {
                int what = treaty.code[law * TAPE + i];
                if (what > SIGN && top < TAPE) {
                    stack[top] = what >= 0 ? what : nameAt(NAME - what);
                    top++;
                } else if (what == SIGN - '!' && top > 0) {
                    stack[top - 1] = stack[top - 1] == 0 ? 1 : 0;
                } else if (top > 1) {
                    top--;
                    stack[top - 1] = join(SIGN - what, stack[top - 1], stack[top]);
                }
            }
            return stack[0];
        }

        private int nameAt(int name) {
            return name >= 0 && name < NAMES ? names[name] : 0;
        }

        private static int join(int sign, int left, int right) {
            switch (sign) {
                case '|':
                    return left != 0 || right != 0 ? 1 : 0;
                case '&':
                    return left != 0 && right != 0 ? 1 : 0;
                case '<':
                    return left < right ? 1 : 0;
                case '=':
                    return left == right ? 1 : 0;
                case '>':
                    return left > right ? 1 : 0;
                case '+':
                    return left + right;
                case '-':
                    return left - right;
                case '*':
                    return left * right;
                default:
                    return right == 0 ? 0 : left / right;
            }
        }

        /** What the law in force says of a flight over a land; 0 without a law, as all but FACTOR have it. */
        int ask(int use, int flight, int land) {
            if (!flights.has(flight)) {
                return 0;
            }
            int law = treaty.inForce(use, flights.day[flight]);
            return law < 0 ? 0 : lawSays(law, flights.plane[flight], flight, land);
        }

        int factorOf(int plane, int flight, int land) {
            if (!fleet.hasPlane(plane)) {
                return 0;
            }
            int law = treaty.inForce(FACTOR, dayOf(flight));
            if (law < 0) {
                return rootOf(200 * fleet.weight[plane]);
            }
            return Math.max(0, Math.min(lawSays(law, plane, flight, land), MOST_FACTOR));
        }

        private int dayOf(int flight) {
            return flights.has(flight) ? flights.day[flight] : sky.day;
        }

        /** All miles as filed, in all lands. */
        private int allMiles(int flight) {
            int sum = 0;
            int n = flights.has(flight) ? Math.min(flights.size[flight], ROW) : 0;
            for (int i = 0; i < n; i++) {
                if (sky.ownerOf(flights.numbers[flight * ROW + i]) >= 0) {
                    sum += i == 0 || i == n - 1 ? 5 : 10;
                }
            }
            return sum;
        }

        private static int rootOf(int square) {
            int root = 0;
            // 346 is the root for the heaviest plane
            while (root < 400 && (root + 1) * (root + 1) <= square) {
                root++;
            }
            return root;
        }
    }

    /** Miles over lands, and the fees for them. */
    private static final class Billing {
        private static final int LEAST = 0;
        private static final int MOST = 1;

        private final Sky sky;
        private final Fleet fleet;
        private final Flights flights;
        private final Court court;
        private final int[] least = new int[CELLS * 2];
        private final int[] most = new int[CELLS * 2];

        Billing(Sky sky, Fleet fleet, Flights flights, Court court) {
            this.sky = sky;
            this.fleet = fleet;
            this.flights = flights;
            this.court = court;
        }

        /** Miles of a row in a land: 0 the least, 1 the most, else the middle of them, over all its ways. */
        int milesBy(int row, int land, int what) {
            int n = isRowPlace(row) ? Math.min(flights.size[row], ROW) : 0;
            int side = 0;
            int last = -1;
            long reached = 0;
            for (int i = 0; i < n; i++) {
                last = flights.numbers[row * ROW + i];
                side = CELLS - side;
                int to = isCell(last) ? last : CELLS - 1;
                // each step gives 5 to the land of either cell, so that an inner cell counts twice
                int own = i == 0 || i == n - 1 ? 5 : 10;
                long before = reached;
                reached = 0;
                for (int c = Math.max(last, 0); c <= to; c++) {
                    int miles = sky.ownerOf(c) == land ? own : 0;
                    if (i == 0) {
                        least[side + c] = miles;
                        most[side + c] = miles;
                        reached |= 1L << c;
                    } else if (reach(c, side, before, miles)) {
                        reached |= 1L << c;
                    }
                }
            }
            return isCell(last) ? choose(least[side + last], most[side + last], what) : 0;
        }

        /** The spans up to a cell, from those of the cells next to it that were reached, on the other side. */
        private boolean reach(int cell, int side, long before, int miles) {
            boolean can = false;
            for (int s = 0; s < 4; s++) {
                int next = nextTo(cell, s);
                if (next >= 0 && (before >>> next & 1L) != 0) {
                    int at = CELLS - side + next;
                    int low = least[at] + miles;
                    int high = most[at] + miles;
                    least[side + cell] = can ? Math.min(least[side + cell], low) : low;
                    most[side + cell] = can ? Math.max(most[side + cell], high) : high;
                    can = true;
                }
            }
            return can;
        }

        private static int choose(int low, int high, int what) {
            if (what == LEAST) {
                return low;
            }
            return what == MOST ? high : (low + high) / 2;
        }

        /** Whether a row is there for each land for which the treaty wants what was flown. */
        boolean canBill(int flight) {
            if (flights.rowKnown(flight, LAST_DAY) >= 0) {
                return true;
            }
            for (int land = 0; land < LANDS; land++) {
                if (court.ask(FREE, flight, land) == 0 && court.ask(BASE, flight, land) != 0) {
                    return false;
                }
            }
            return true;
        }

        void startBill(int flight) {
            if (flights.has(flight)) {
                System.arraycopy(sky.rate, 0, flights.rates, flight * LANDS, LANDS);
                flights.doubled[flight] = flights.hasBilledTwin(flight);
                flights.billedOn[flight] = sky.day;
            }
        }

        void bookIncome(int flight) {
            for (int land = 0; land < LANDS && flights.has(flight); land++) {
                sky.income[land] += flights.fees[flight * LANDS + land];
            }
        }

        /** The fees become what they now come to, and the airline owes the change: by how much they are more. */
        int chargeAnew(int flight) {
            if (!flights.has(flight)) {
                return 0;
            }
            int airline = fleet.lineOf(flights.plane[flight]);
            int sum = 0;
            for (int land = 0; land < LANDS; land++) {
                int at = flight * LANDS + land;
                int fee = feeBy(flight, land, court.ask(BASE, flight, land) != 0);
                int more = fee - flights.fees[at];
                flights.fees[at] = fee;
                fleet.changeDebt(airline, land, more);
                sum += more;
            }
            return sum;
        }

        /** The fee by what was flown, or by what was filed. */
        private int feeBy(int flight, int land, boolean flown) {
            int row = flights.rowKnown(flight, flown ? LAST_DAY : -1);
            if (flights.doubled[flight] || row < 0 || court.ask(FREE, flight, land) != 0) {
                return 0;
            }
            int miles = milesBy(row, land, court.ask(GAP, flight, land));
            int units = miles * court.factorOf(flights.plane[flight], flight, land) / 100;
            return units * flights.rates[flight * LANDS + land] / 100;
        }

        int sumByOneBase(int land, boolean flown) {
            int sum = 0;
            for (int f = 0; f < FLIGHTS && flights.has(f) && isLand(land); f++) {
                if (flights.billedOn[f] >= 0) {
                    sum += feeBy(f, land, flown);
                }
            }
            return sum;
        }
    }

    /** The cheapest way of a plane: far holds what each cell is from the goal, so that the first way can be walked. */
    private static final class Routes {
        /** A cost times this and the steps make one number to compare; no way has so many steps. */
        private static final long STEPS = 128;
        private static final long NO_WAY = 1000000000000L;

        final int[] way = new int[CELLS];
        int steps;
        private final Sky sky;
        private final Court court;
        private final int[] toll = new int[LANDS];
        private final long[] far = new long[CELLS];

        Routes(Sky sky, Court court) {
            this.sky = sky;
            this.court = court;
        }

        boolean findWay(int plane, int from, int to) {
            if (!isCell(from) || !isCell(to) || sky.shut[from] || sky.shut[to]) {
                return false;
            }
            for (int land = 0; land < LANDS; land++) {
                toll[land] = 5 * court.factorOf(plane, -1, land) * sky.rate[land] / 10000;
            }
            measureAll(to);
            if (far[from] == NO_WAY) {
                return false;
            }
            walk(from, to);
            return true;
        }

        private void measureAll(int to) {
            for (int c = 0; c < CELLS; c++) {
                far[c] = NO_WAY;
            }
            far[to] = 0;
            boolean better = true;
            for (int round = 0; round < CELLS && better; round++) {
                better = false;
                for (int c = 0; c < CELLS; c++) {
                    better |= !sky.shut[c] && c != to && measureOne(c);
                }
            }
        }

        private boolean measureOne(int cell) {
            boolean better = false;
            for (int s = 0; s < 4; s++) {
                long by = farBy(cell, nextTo(cell, s));
                if (by < far[cell]) {
                    far[cell] = by;
                    better = true;
                }
            }
            return better;
        }

        private long farBy(int cell, int next) {
            if (!isCell(next) || far[next] == NO_WAY) {
                return NO_WAY;
            }
            long cost = (long) sky.fuelPrice + tollAt(cell) + tollAt(next);
            return far[next] + cost * STEPS + 1;
        }

        private int tollAt(int cell) {
            int land = sky.ownerOf(cell);
            return isLand(land) ? toll[land] : 0;
        }

        private void walk(int from, int to) {
            int cell = from;
            way[0] = from;
            steps = 0;
            for (int i = 1; i < CELLS && cell != to; i++) {
                cell = firstOnward(cell);
                way[i] = cell;
                steps = i;
            }
        }

        /** Sides are tried in the order of their cells' numbers, so the first that fits is the one wanted. */
        private int firstOnward(int cell) {
            for (int s = 0; s < 4; s++) {
                int next = nextTo(cell, s);
                if (farBy(cell, next) == far[cell]) {
                    return next;
                }
            }
            return cell;
        }

        int costOfWay() {
            return isCell(way[0]) ? (int) (far[way[0]] / STEPS) : 0;
        }

        int tollsOfWay(int land) {
            int sum = 0;
            for (int i = 0; i <= steps && i < CELLS && isLand(land); i++) {
                if (sky.ownerOf(way[i]) == land) {
                    // an inner cell is of two steps, an end of one, and of none where there is no step
                    sum += toll[land] * ((i > 0 ? 1 : 0) + (i < steps ? 1 : 0));
                }
            }
            return sum;
        }
    }

    /** What a plane of a kind says, and the trace of the bodies that said it. */
    private static final class Voices {
        private static final int LIFT = 0;
        private static final int HUM = 1;
        private static final int TURN = 2;
        private static final int TELL = 3;
        private static final int DEEPEST = 40;

        final int[] bodies = new int[TRACE];
        int begun;
        private int number;
        private int weight;
        private int kind;

        int begin(int plane, Fleet fleet, int act, int x) {
            begun = 0;
            if (!fleet.hasPlane(plane)) {
                return 0;
            }
            number = plane;
            weight = fleet.weight[plane];
            kind = fleet.kind[plane];
            return say(kind, act, x, 0);
        }

        private int say(int from, int act, int x, int depth) {
            int at = withBody(from, act);
            if (at < 0 || depth > DEEPEST) {
                return 0;
            }
            int body = BODIES[at * ACTS + act];
            note(body);
            int above = ABOVE[at];
            int d = depth + 1;
            switch (body) {
                case 10:
                    return x + weight;
                case 11:
                    return say(kind, LIFT, x, d) * 2;
                case 12:
                    return x - number;
                case 13:
                    return say(kind, HUM, x, d) ^ say(kind, TURN, x, d);
                case 20:
                    return say(above, LIFT, x, d) + number;
                case 21:
                    return say(above, TELL, x - 1, d);
                case 30:
                    return say(above, TURN, x, d) * 3;
                case 31:
                    return say(above, LIFT, x + weight, d);
                case 40:
                    return say(above, HUM, x, d) - say(kind, TURN, x, d);
                case 50:
                    return say(kind, TURN, x, d) - say(above, TELL, x, d);
                case 60:
                    return say(above, TURN, x - weight, d);
                case 61:
                    return say(above, HUM, x, d) + say(kind, LIFT, x, d);
                default:
                    return 0;
            }
        }

        /** The first kind from one upward that has a body for the act; -1 if none has. */
        private static int withBody(int from, int act) {
            int k = from;
            for (int i = 0; i < KINDS && isKind(k) && within(act, 0, ACTS - 1); i++) {
                if (BODIES[k * ACTS + act] != 0) {
                    return k;
                }
                k = ABOVE[k];
            }
            return -1;
        }

        private void note(int body) {
            if (begun >= 0 && begun < TRACE) {
                bodies[begun] = body;
                begun++;
            }
        }
    }

    /** Sheets: rows of numbers; one of 0 bits is missing. */
    private static final class Sheets {
        private static final long EVERY = -1L;
        private static final long LEFT_COLUMN = 0x0101010101010101L;
        private static final long RIGHT_COLUMN = 0x8080808080808080L;

        final int[] bits = new int[SHEETS];
        final int[] numbers = new int[SHEETS * SHEET];
        private final int[] size = new int[SHEETS];

        boolean isMissing(int sheet) {
            return !isSheet(sheet) || bits[sheet] == 0;
        }

        int sizeOf(int sheet) {
            return isSheet(sheet) ? size[sheet] : 0;
        }

        int numberAt(int sheet, int i) {
            return isSheet(sheet) && within(i, 0, SHEET - 1) ? numbers[sheet * SHEET + i] : 0;
        }

        boolean stand(int sheet, int i, int n) {
            return i >= 0 && n >= 0 && (long) i + n <= sizeOf(sheet);
        }

        void makeAnew(int sheet, int wide, int n) {
            if (!isSheet(sheet)) {
                return;
            }
            bits[sheet] = wide;
            size[sheet] = wide == 0 ? 0 : Math.max(0, Math.min(n, SHEET));
            Arrays.fill(numbers, sheet * SHEET, sheet * SHEET + SHEET, 0);
        }

        void setNumber(int sheet, int i, int v) {
            if (isSheet(sheet) && within(i, 0, SHEET - 1)) {
                numbers[sheet * SHEET + i] = lowestBits(v, bits[sheet]);
            }
        }

        private static int lowestBits(int v, int wide) {
            if (wide == 8) {
                return (byte) v;
            }
            return wide == 16 ? (short) v : v;
        }

        /** Whether the numbers are a row of a flight, with gaps only where they may be. */
        boolean isRow(int sheet, boolean gaps) {
            int n = sizeOf(sheet);
            if (!within(n, 2, ROW)) {
                return false;
            }
            long reach = EVERY;
            for (int i = 0; i < n && reach != 0; i++) {
                int number = numberAt(sheet, i);
                long here = i == 0 ? EVERY : around(reach);
                if (isCell(number)) {
                    reach = here & (1L << number);
                } else if (gaps && number == -1 && i > 0 && i < n - 1) {
                    reach = here;
                } else {
                    reach = 0;
                }
            }
            return reach != 0;
        }

        /** All cells next to one of a set of cells, a bit for each. */
        private static long around(long set) {
            long across = (set & ~RIGHT_COLUMN) << 1 | (set & ~LEFT_COLUMN) >>> 1;
            return across | set << SIDE | set >>> SIDE;
        }
    }
}
