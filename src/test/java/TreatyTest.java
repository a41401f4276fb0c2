/** Promises 17 to 20: the tape and the laws. */
public final class TreatyTest {
    private static final Due due = new Due();

    public static void main(String[] args) {
        feed();
        law();
        faults();
        force();
        says();
        values();
        due.end();
    }

    private static void feed() {
        SkyFees x = new SkyFees();
        due.is("17: n 0", x.feed(1, 0), Due.BEYOND);
        due.is("17: n 9", x.feed(1, 9), Due.BEYOND);
        due.is("17: n -1", x.feed(1, -1), Due.BEYOND);
        for (int i = 1; i <= 7; i++) {
            due.is("17: " + 8 * i, x.feed(0x3131313131313131L, 8), 8 * i);
        }
        due.is("17: 64 are too many", x.feed(0x3131313131313131L, 8), Due.FULL);
        due.is("17: 61 are too many", x.feed(0x3131313131313131L, 5), Due.FULL);
        due.is("17: 60", x.feed(0x31313131L, 4), 60);
        due.is("17: one more", x.feed(0x31, 1), Due.FULL);
        due.is("17: BEYOND ahead of FULL", x.feed(0x31, 9), Due.BEYOND);
        due.is("17: told", x.told(8), 60);
        due.is("18: its fifth digit", x.law(0, 0), -14);
        due.is("18: empty then", x.told(8), 0);
        x.feed(0x7A7A7A7A7A2B31L, 2);
        due.is("17: the n lowest alone, the lowest first", x.feed(0x77, 1), 3);
        due.is("18: 1+w", x.law(0, 0), 0);
        x.airline(0);
        x.plane(0, 0, 40);
        due.is("17: 1+w says", x.says(0, 0, -1, -1), 41);
        due.is("17: the eighth byte", x.feed(0x392B312B312B312BL >>> 8 | 0x39L << 56, 8), 8);
    }

    private static void law() {
        SkyFees x = new SkyFees();
        due.is("18: an empty tape", x.law(0, 0), -10);
        Due.feed(x, "1");
        due.is("18: use 4", x.law(4, 0), Due.BEYOND);
        due.is("18: use -1", x.law(-1, 0), Due.BEYOND);
        due.is("18: day -1", x.law(0, -1), Due.BEYOND);
        due.is("18: day 3001", x.law(0, 3001), Due.BEYOND);
        due.is("18: the tape stays", x.told(8), 1);
        due.is("18: day 3000", x.law(3, 3000), 0);
        due.is("18: the tape is empty", x.told(8), 0);
        for (int i = 1; i < 12; i++) {
            due.is("18: law " + i, Due.law(x, i % 4, i, "w"), i);
        }
        Due.feed(x, "w+");
        due.is("18: a thirteenth", x.law(0, 0), Due.FULL);
        due.is("18: the tape stays when full", x.told(8), 2);
        due.is("18: BEYOND ahead of FULL", x.law(4, 0), Due.BEYOND);
        due.is("18: told", x.told(3), 12);
    }

    private static void fault(String text, int fault) {
        SkyFees x = new SkyFees();
        due.is("18: " + text, Due.law(x, 0, 0, text), fault < 0 ? 0 : -10 - fault);
        due.is("18: laws after " + text, x.told(3), fault < 0 ? 1 : 0);
        due.is("18: tape after " + text, x.told(8), 0);
    }

    private static void faults() {
        String[] good = {"1", "9999", "0000", "w", "k|a&m<d", "1<2", "(1<2)<3", "1<(2<3)", "!!!!!w", "(((((w)))))",
            "!(!(!w))", "!w+!w+!w+!w+!w+!w+!w", "(w)+(w)+(w)*(w)/(w)-(w)", "1|2|3&4&5=6+7-8*9/10", "w<1&k>2&a=3"};
        for (String text : good) {
            fault(text, -1);
        }
        fault("12345", 4);
        fault("1w", 1);
        fault("w1", 1);
        fault("ww", 1);
        fault("w w", 1);
        fault("x", 0);
        fault("W", 0);
        fault(")", 0);
        fault("()", 1);
        fault("(w", 2);
        fault("(w))", 3);
        fault("w+", 2);
        fault("+w", 0);
        fault("-1", 0);
        fault("1--1", 2);
        fault("1<2<3", 3);
        fault("1<2=3", 3);
        fault("1==2", 2);
        fault("1<=2", 2);
        fault("1||2", 2);
        fault("1&|2", 2);
        fault("!", 1);
        fault("w!", 1);
        fault("!!!!!!w", 5);
        fault("((((((w", 5);
        fault("!(!(!(w", 5);
        fault("(((((!w", 5);
        fault("(((((w+!w", 7);
        fault("(((((w)!", 7);
        fault("((((((", 5);
        fault("(((((", 5);
        fault("w(", 1);
        fault("1(2)", 1);
        fault("(1)(2)", 3);
        fault("(1<2<3", 4);
        fault("w\u00ff", 1);
        fault("\u0000", 0);
    }

    private static void force() {
        SkyFees x = new SkyFees();
        due.is("19: none", x.force(0, 3000), Due.NONE);
        Due.law(x, 0, 10, "1");
        Due.law(x, 0, 20, "2");
        Due.law(x, 1, 0, "3");
        due.is("19: ahead of both", x.force(0, 9), Due.NONE);
        due.is("19: its first day", x.force(0, 10), 0);
        due.is("19: up to the next", x.force(0, 19), 0);
        due.is("19: the next", x.force(0, 20), 1);
        due.is("19: the last day", x.force(0, 3000), 1);
        due.is("19: another use", x.force(1, 0), 2);
        Due.law(x, 0, 15, "4");
        due.is("19: told last, for a day ahead", x.force(0, 20), 3);
        due.is("19: ahead of that day", x.force(0, 14), 0);
        due.is("19: use 4", x.force(4, 0), Due.BEYOND);
        due.is("19: use -1", x.force(-1, 0), Due.BEYOND);
        due.is("19: day -1", x.force(0, -1), Due.BEYOND);
        due.is("19: day 3001", x.force(0, 3001), Due.BEYOND);
    }

    private static void says() {
        SkyFees x = Due.twoLands(0);
        x.airline(0);
        x.plane(2, 1, 77);
        x.go(5);
        // cells 2, 3 of land 1, 4 of land 2, 12 of none: 15 + 10 miles
        int flight = Due.file(x, 1, 2, 3, 4, 12);
        x.go(4);
        String names = "wkamdl";
        int[] with = {77, 2, 1, 25, 5, 6};
        int[] without = {77, 2, 1, 0, 9, -1};
        for (int i = 0; i < 6; i++) {
            int law = Due.law(x, 0, 0, names.substring(i, i + 1));
            due.is("20: " + names.charAt(i), x.says(law, 1, flight, 6), with[i]);
            due.is("20: " + names.charAt(i) + " without", x.says(law, 1, -1, -1), without[i]);
        }
        x.cell(12, 7);
        due.is("20: m by the lands of now", x.says(3, 1, flight, 0), 30);
        due.is("20: a flight of another plane", x.says(0, 0, flight, 0), Due.BEYOND);
        due.is("20: no such flight", x.says(0, 1, 1, 0), Due.BEYOND);
        due.is("20: flight -2", x.says(0, 1, -2, 0), Due.BEYOND);
        due.is("20: no such law", x.says(6, 1, -1, 0), Due.BEYOND);
        due.is("20: law -1", x.says(-1, 1, -1, 0), Due.BEYOND);
        due.is("20: no such plane", x.says(0, 2, -1, 0), Due.BEYOND);
        due.is("20: plane -1", x.says(0, -1, -1, 0), Due.BEYOND);
        due.is("20: land 8", x.says(0, 1, -1, 8), Due.BEYOND);
        due.is("20: land -2", x.says(0, 1, -1, -2), Due.BEYOND);
    }

    private static void value(String text, int want) {
        SkyFees x = new SkyFees();
        x.airline(0);
        x.plane(3, 0, 50);
        Due.law(x, 0, 0, text);
        due.is("20: " + text, x.says(0, 0, -1, -1), want);
        due.is("20: no finding in " + text, x.found(1) + x.found(2) + x.found(3) + x.found(4) + x.found(5), 0);
    }

    private static void values() {
        value("7", 7);
        value("0012", 12);
        value("2-3-4", -5);
        value("2+3*4", 14);
        value("(2+3)*4", 20);
        value("7/2", 3);
        value("(0-7)/2", -3);
        value("7/0", 0);
        value("100/7/2", 7);
        value("2*7/4", 3);
        value("!5", 0);
        value("!0", 1);
        value("!!5", 1);
        value("!0+1", 2);
        value("!(1=2)*5", 5);
        value("5|0", 1);
        value("0|0", 0);
        value("5&7", 1);
        value("5&0", 0);
        value("0-1&1", 1);
        value("1|0&0", 1);
        value("(0|3)*5", 5);
        value("(0&3)+5", 5);
        value("1&3", 1);
        value("0&1", 0);
        value("0|1", 1);
        value("w/0+k", 3);
        value("1&0|1", 1);
        value("3<4", 1);
        value("4<4", 0);
        value("4=4", 1);
        value("4>4", 0);
        value("5>4", 1);
        value("1+1=2", 1);
        value("l<0", 1);
        value("l", -1);
        value("9999*9999*9999", (int) (9999L * 9999L * 9999L));
        value("(9999*9999*9999-1)/(0-1)", -((int) (9999L * 9999L * 9999L) - 1));
        // the least int by -1 goes round and stays what it is
        value("(1024*1024*2048)/(0-1)", Integer.MIN_VALUE);
        value("0-1000*1000-3", -1000003);
    }
}
