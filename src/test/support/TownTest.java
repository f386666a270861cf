/** What the tests share: towns told, and answers held against those that are due. */
abstract class TownTest {
    static final int NONE = -1, UNKNOWN = -2, OUTSIDE = -3, NOT = -4, FULL = -5;
    static final int LEAST = Integer.MIN_VALUE, MOST = Integer.MAX_VALUE;
    private static int wrong = 0;

    static void due(String call, int got, int want) {
        if (got != want) {
            wrong++;
            System.out.println(call + " answered " + got + ", due is " + want);
        }
    }

    static void same(String call, String got, String want) {
        if (!got.equals(want)) {
            wrong++;
            System.out.println(call + " left " + got + ", due is " + want);
        }
    }

    /** Ends the test, with exit code 1 if an answer was wrong. */
    static void finish(String whenRight) {
        System.out.println(wrong == 0 ? whenRight : wrong + " answers are not as due");
        if (wrong != 0) {
            System.exit(1);
        }
    }

    /** Writes a text, whatever it says; the bytes above the last are not 0, as they do not count. */
    static void write(NextWay x, String text) {
        for (int i = 0; i < text.length(); i += 8) {
            int n = Math.min(8, text.length() - i);
            long bytes = n < 8 ? -1L << 8 * n : 0;
            for (int k = 0; k < n; k++) {
                bytes |= (long) text.charAt(i + k) << 8 * k;
            }
            x.write(bytes, n);
        }
    }

    static NextWay tell(NextWay x, String... texts) {
        for (String text : texts) {
            write(x, text);
            if (x.town() < 1) {
                wrong++;
                System.out.println("not told: " + text);
                x.erase();
            }
        }
        return x;
    }

    static NextWay town(String... texts) {
        return tell(new NextWay(), texts);
    }

    /**
     * CORNERS in a row, CORNER i with ways[i] WAYS: the first on to i + 1, the others back to 0. From VANES at 0 one goes
     * on behind all others, and then all VANES are at 0 again; so it is T(i + 1) = ways[i] (T(i) + 1) BEATS to i + 1.
     */
    static NextWay chain(int... ways) {
        NextWay x = town("town " + (ways.length + 1));
        for (int i = 0; i < ways.length; i++) {
            StringBuilder text = new StringBuilder("way " + i + " " + (i + 1));
            for (int k = 1; k < ways[i]; k++) {
                text.append(";way ").append(i).append(" 0");
            }
            tell(x, text.toString());
        }
        return x;
    }

    static int fault(NextWay x, String text) {
        x.erase();
        write(x, text);
        return x.fault();
    }

    static int fault(String text) {
        return fault(new NextWay(), text);
    }

    /** What count and corner show of an object's state. */
    static String state(NextWay x) {
        StringBuilder s = new StringBuilder();
        for (int what = 0; what < 6; what++) {
            s.append(x.count(what)).append(' ');
        }
        for (int c = 0; c < x.count(0); c++) {
            s.append('|').append(x.corner(c, 0)).append(x.corner(c, 1)).append(x.corner(c, 2)).append(x.corner(c, 3));
        }
        return s.toString();
    }

    static String repeat(String part, int times, String between) {
        StringBuilder s = new StringBuilder();
        for (int i = 0; i < times; i++) {
            s.append(i == 0 ? "" : between).append(part);
        }
        return s.toString();
    }
}
