import java.util.ArrayList;
import java.util.List;

/**
 * 'Refused, and nothing changes: UNKNOWN, OUTSIDE, NOT, FULL: the first of these that fits': each refusal of each call, and
 * that the object is behind it as one that was never called so: its town, THE TEXT to the last byte, and what is kept.
 */
public final class RefusalTests extends TownTest {
    interface Call {
        int on(NextWay x);
    }

    interface Scene {
        NextWay make();
    }

    private static final class Row {
        final String name;
        final Call call;
        final int due;

        Row(String name, Call call, int due) {
            this.name = name;
            this.call = call;
            this.due = due;
        }
    }

    /** Stands for any answer that is no refusal. */
    private static final int ANSWERED = MOST;
    private static final List<Row> ROWS = new ArrayList<>();

    private static void row(String name, int due, Call call) {
        ROWS.add(new Row(name, call, due));
    }

    private static void answered(String name, Call call) {
        ROWS.add(new Row(name, call, ANSWERED));
    }

    /** Eight CORNERS (6 a SPRING, 3 without WAYS), five WALKERS, in the midst of BEATS, both kept, a text begun. */
    private static NextWay largeTown() {
        NextWay x = town("town 8;way 0 1;way 0 2;way 0 3;way 1 0;way 1 4;way 2 5;way 4 7;way 4 4;way 5 0;way 6 0;way 7 0",
            "spring 6;against 1;second 0;vane 0 2;vane 4 1;walker 0;walker 1;walker 2;walker 4;walker 7");
        x.keep(0);
        x.go(3);
        x.turn(0);
        x.put(1, 5);
        x.keep(1);
        x.go(4);
        x.turn(1);
        x.put(2, 2);
        write(x, "nobody;way 7 ");
        return x;
    }

    /** Two CORNERS (1 without WAYS), one WALKER, only 1 kept; so bounds are those of this town, not of the largest one. */
    private static NextWay smallTown() {
        NextWay x = town("way 0 0;way 0 1;way 0 0;walker 0");
        x.keep(1);
        x.turn(0);
        write(x, "walker 1");
        return x;
    }

    private static NextWay fullText() {
        NextWay x = town("town 3;way 0 1;way 1 0;walker 0");
        x.go(2);
        x.keep(0);
        write(x, "walker 2" + repeat(" ", 192, ""));
        return x;
    }

    private static NextWay fullBeats() {
        NextWay x = town("town 3;way 0 1;way 0 2;way 0 0;way 1 0;walker 0;walker 1");
        for (int i = 0; i < 100; i++) {
            x.go(999);
        }
        x.keep(1);
        x.go(99);
        x.put(0, 0);
        return x;
    }

    /** All that later calls can tell of an object; it is spent by this. */
    private static String trace(NextWay x) {
        StringBuilder s = new StringBuilder(state(x)).append(waysAndWalkers(x)).append(" fault ").append(x.fault());
        write(x, "0");
        s.append(" and then ").append(x.fault()).append(" kept ").append(x.back(1)).append(state(x));
        s.append(" kept ").append(x.back(0)).append(state(x)).append(" town ").append(x.town()).append(state(x));
        s.append(" erase ").append(x.erase());
        write(x, "plain 0");
        return s.append(" town ").append(x.town()).append(state(x)).append(waysAndWalkers(x)).toString();
    }

    private static String waysAndWalkers(NextWay x) {
        StringBuilder s = new StringBuilder(" ways");
        for (int c = 0; c < 8; c++) {
            for (int v = 0; v < 4; v++) {
                s.append(' ').append(x.way(c, v));
            }
        }
        s.append(" walkers");
        for (int w = 0; w < 5; w++) {
            s.append(' ').append(x.walker(w));
        }
        return s.toString();
    }

    private static void holdRows(String sceneName, Scene scene) {
        String untouched = trace(scene.make());
        for (Row row : ROWS) {
            NextWay x = scene.make();
            int answer = row.call.on(x);
            int due = row.due == ANSWERED ? Math.max(NONE, answer) : row.due;
            due(sceneName + ": " + row.name, answer, due);
            due(sceneName + ": again " + row.name, row.call.on(x), due);
            same(sceneName + ": " + row.name, trace(x), untouched);
        }
        ROWS.clear();
    }

    /** Each place of a call where a CORNER is told, with one that is none; it comes ahead of all other refusals but later's. */
    private static void noSuchCorner(int n, int otherWalker) {
        for (int c : new int[] {n, n + 1, 8, 9, MOST, -1, LEAST}) {
            String no = " corner " + c;
            row("corner" + no, UNKNOWN, x -> x.corner(c, 0));
            row("corner, what" + no, UNKNOWN, x -> x.corner(c, 4));
            row("way" + no, UNKNOWN, x -> x.way(c, 0));
            row("as" + no, UNKNOWN, x -> x.as(c, 0));
            row("as, kind" + no, UNKNOWN, x -> x.as(c, 5));
            row("as, none such" + no, UNKNOWN, x -> x.as(c, 4));
            row("turn" + no, UNKNOWN, x -> x.turn(c));
            row("put" + no, UNKNOWN, x -> x.put(0, c));
            row("put, walker" + no, UNKNOWN, x -> x.put(otherWalker, c));
            row("later" + no, UNKNOWN, x -> x.later(c, 0, 1));
            row("later, t" + no, UNKNOWN, x -> x.later(c, 100, 1));
            row("later, what first" + no, OUTSIDE, x -> x.later(c, 0, 2));
            row("when" + no, UNKNOWN, x -> x.when(0, c));
            row("often" + no, UNKNOWN, x -> x.often(0, c, 1));
            row("often, beats" + no, UNKNOWN, x -> x.often(0, c, 1000));
            row("round" + no, UNKNOWN, x -> x.round(c, 0));
            row("round, what" + no, UNKNOWN, x -> x.round(c, 2));
            row("quick from" + no, UNKNOWN, x -> x.quick(c, 0, NONE));
            row("quick to" + no, UNKNOWN, x -> x.quick(0, c, NONE));
            row("quick to, i" + no, UNKNOWN, x -> x.quick(0, c, -2));
            row("quick from, i" + no, UNKNOWN, x -> x.quick(c, 0, -2));
            row("slow from" + no, UNKNOWN, x -> x.slow(c, 0));
            row("slow to" + no, UNKNOWN, x -> x.slow(0, c));
            row("pennies" + no, UNKNOWN, x -> x.pennies(0, c, 0, NONE));
            row("pennies, beats, i" + no, UNKNOWN, x -> x.pennies(0, c, 100, -2));
            row("shares from" + no, UNKNOWN, x -> x.shares(c, 1, 0));
            row("shares at" + no, UNKNOWN, x -> x.shares(0, 1, c));
            row("shares from, m" + no, UNKNOWN, x -> x.shares(c, 0, 0));
            row("shares at, m" + no, UNKNOWN, x -> x.shares(0, 100, c));
            row("past" + no, UNKNOWN, x -> x.past(c, 1, 0));
            row("past, t" + no, UNKNOWN, x -> x.past(c, 7, 0));
            row("past, what" + no, UNKNOWN, x -> x.past(c, 1, 2));
            if (c > NONE) {
                row("quick i" + no, UNKNOWN, x -> x.quick(0, 0, c));
                row("pennies i" + no, UNKNOWN, x -> x.pennies(0, 0, 0, c));
                row("pennies i, beats" + no, UNKNOWN, x -> x.pennies(0, 0, 100, c));
            }
        }
    }

    private static void noSuchWalker(int walkers) {
        for (int w : new int[] {walkers, walkers + 1, 5, 6, MOST, -1, LEAST}) {
            String no = " walker " + w;
            row("walker" + no, UNKNOWN, x -> x.walker(w));
            row("put" + no, UNKNOWN, x -> x.put(w, 0));
            row("later" + no, UNKNOWN, x -> x.later(w, 0, 0));
            row("later, t" + no, UNKNOWN, x -> x.later(w, -1, 0));
            row("later, what first" + no, OUTSIDE, x -> x.later(w, 0, -1));
            row("when" + no, UNKNOWN, x -> x.when(w, 0));
            row("often" + no, UNKNOWN, x -> x.often(w, 0, 1));
            row("often, beats" + no, UNKNOWN, x -> x.often(w, 0, 0));
            row("meet one" + no, UNKNOWN, x -> x.meet(w, 0, 0));
            row("meet other" + no, UNKNOWN, x -> x.meet(0, w, 0));
            row("meet, himself" + no, UNKNOWN, x -> x.meet(w, w, 0));
            row("meet, what" + no, UNKNOWN, x -> x.meet(0, w, 2));
            row("pennies" + no, UNKNOWN, x -> x.pennies(w, 0, 0, NONE));
            row("pennies, beats" + no, UNKNOWN, x -> x.pennies(w, 0, 100, NONE));
            row("pennies, i" + no, UNKNOWN, x -> x.pennies(w, 0, 0, -2));
        }
    }

    private static void noSuchWay() {
        for (int v : new int[] {3, 4, MOST, -1, LEAST}) {
            row("way " + v + " of three", UNKNOWN, x -> x.way(0, v));
        }
        row("way 0 of none", UNKNOWN, x -> x.way(1, 0));
        row("way -1 of none", UNKNOWN, x -> x.way(1, -1));
    }

    private static void noSuchPlaceToKeep() {
        for (int k : new int[] {2, 3, MOST, -1, LEAST}) {
            row("keep " + k, UNKNOWN, x -> x.keep(k));
            row("back " + k, UNKNOWN, x -> x.back(k));
        }
    }

    /** A number below the first or above the last that is told. */
    private static void numbersOutside() {
        for (int n : new int[] {0, 9, 200, MOST, -1, LEAST}) {
            row("write n " + n, OUTSIDE, x -> x.write(0x3b3b3b3b3b3b3b3bL, n));
        }
        for (int n : new int[] {0, 1000, MOST, -1, LEAST}) {
            row("go " + n, OUTSIDE, x -> x.go(n));
            row("often of " + n, OUTSIDE, x -> x.often(0, 0, n));
        }
        for (int t : new int[] {100, MOST, -1, LEAST}) {
            row("later of a walker in " + t, OUTSIDE, x -> x.later(0, t, 0));
            row("later of a corner in " + t, OUTSIDE, x -> x.later(0, t, 1));
            row("pennies in " + t, OUTSIDE, x -> x.pennies(0, 0, t, NONE));
            row("pennies in " + t + ", row", OUTSIDE, x -> x.pennies(0, 0, t, 0));
        }
        for (int m : new int[] {0, 100, MOST, -1, LEAST}) {
            row("shares of " + m, OUTSIDE, x -> x.shares(0, m, 0));
        }
        for (int t : new int[] {0, 7, MOST, -1, LEAST}) {
            row("past in " + t, OUTSIDE, x -> x.past(0, t, 0));
            row("past in " + t + ", corners", OUTSIDE, x -> x.past(0, t, 1));
        }
        for (int i : new int[] {-2, -3, LEAST}) {
            row("quick i " + i, OUTSIDE, x -> x.quick(0, 0, i));
            row("pennies i " + i, OUTSIDE, x -> x.pennies(0, 0, 0, i));
        }
    }

    private static void whatsOutside() {
        for (int what : new int[] {2, 3, MOST, -1, LEAST}) {
            row("later what " + what, OUTSIDE, x -> x.later(0, 0, what));
            row("round what " + what, OUTSIDE, x -> x.round(0, what));
            row("settled what " + what, OUTSIDE, x -> x.settled(what));
            row("past what " + what, OUTSIDE, x -> x.past(0, 1, what));
        }
        for (int what : new int[] {4, 5, MOST, -1, LEAST}) {
            row("corner what " + what, OUTSIDE, x -> x.corner(0, what));
        }
        for (int what : new int[] {6, 7, MOST, -1, LEAST}) {
            row("count what " + what, OUTSIDE, x -> x.count(what));
        }
        for (int kind : new int[] {5, 6, MOST, -1, LEAST}) {
            row("as " + kind, OUTSIDE, x -> x.as(0, kind));
            row("as " + kind + " of one that nobody leaves", OUTSIDE, x -> x.as(1, kind));
        }
    }

    private static void meetOutside() {
        for (int what : new int[] {2, 3, MOST, -1, LEAST}) {
            row("meet what " + what, OUTSIDE, x -> x.meet(0, 1, what));
        }
        for (int w = 0; w < 5; w++) {
            int same = w;
            row("meet " + w + " and himself", OUTSIDE, x -> x.meet(same, same, 0));
            row("meet " + w + " and himself, where", OUTSIDE, x -> x.meet(same, same, 1));
        }
    }

    private static void notNow() {
        row("town of a text cut short", NOT, x -> x.town());
        row("turn of a spring", NOT, x -> x.turn(6));
        row("turn without ways", NOT, x -> x.turn(3));
        row("a second is no against", NOT, x -> x.as(0, 2));
        row("a second is no spring", NOT, x -> x.as(0, 4));
        row("an against is no second", NOT, x -> x.as(1, 3));
        row("an against is no spring", NOT, x -> x.as(1, 4));
        row("a plain is no against", NOT, x -> x.as(2, 2));
        row("a plain is no second", NOT, x -> x.as(2, 3));
        row("a plain is no spring", NOT, x -> x.as(2, 4));
        row("one without ways is no against", NOT, x -> x.as(3, 2));
        row("a spring is no plain", NOT, x -> x.as(6, 1));
        row("a spring is no against", NOT, x -> x.as(6, 2));
        row("a spring is no second", NOT, x -> x.as(6, 3));
    }

    /** The calls that only tell, at the last numbers that are within: none is refused, and nothing changes, either. */
    private static void within(int n, int walkers) {
        for (int c : new int[] {0, n - 1}) {
            cornersWithin(c);
        }
        for (int w : new int[] {0, walkers - 1}) {
            walkersWithin(w);
        }
        for (int what = 0; what < 4; what++) {
            int any = what;
            answered("corner what " + what, x -> x.corner(0, any));
        }
        for (int what = 0; what < 6; what++) {
            int any = what;
            answered("count what " + what, x -> x.count(any));
        }
        for (int what = 0; what < 2; what++) {
            int any = what;
            answered("round what " + what, x -> x.round(0, any));
            answered("settled what " + what, x -> x.settled(any));
            answered("past what " + what, x -> x.past(0, 1, any));
            answered("past in 6, what " + what, x -> x.past(0, 6, any));
            answered("later in 0, what " + what, x -> x.later(0, 0, any));
            answered("later in 99, what " + what, x -> x.later(0, 99, any));
        }
        answered("shares of 1", x -> x.shares(0, 1, 0));
        answered("shares of 99", x -> x.shares(0, 99, 0));
        answered("fault", x -> x.fault());
        answered("way 0", x -> x.way(0, 0));
        answered("way 2", x -> x.way(0, 2));
        answered("as 0", x -> x.as(0, 0));
    }

    private static void cornersWithin(int c) {
        String at = " corner " + c;
        answered("corner" + at, x -> x.corner(c, 0));
        answered("as" + at, x -> x.as(c, 0));
        answered("later" + at, x -> x.later(c, 0, 1));
        answered("when" + at, x -> x.when(0, c));
        answered("often" + at, x -> x.often(0, c, 1));
        answered("often of 999" + at, x -> x.often(0, c, 999));
        answered("round" + at, x -> x.round(c, 0));
        answered("quick from" + at, x -> x.quick(c, 0, NONE));
        answered("quick to" + at, x -> x.quick(0, c, NONE));
        answered("quick i" + at, x -> x.quick(0, 0, c));
        answered("slow from" + at, x -> x.slow(c, 0));
        answered("slow to" + at, x -> x.slow(0, c));
        answered("pennies in 0" + at, x -> x.pennies(0, c, 0, NONE));
        answered("pennies in 99" + at, x -> x.pennies(0, c, 99, NONE));
        answered("pennies i" + at, x -> x.pennies(0, 0, 0, c));
        answered("shares from" + at, x -> x.shares(c, 1, 0));
        answered("shares at" + at, x -> x.shares(0, 1, c));
        answered("past" + at, x -> x.past(c, 1, 0));
    }

    private static void walkersWithin(int w) {
        String who = " walker " + w;
        answered("walker" + who, x -> x.walker(w));
        answered("later" + who, x -> x.later(w, 0, 0));
        answered("when" + who, x -> x.when(w, 0));
        answered("often" + who, x -> x.often(w, 0, 1));
        answered("pennies" + who, x -> x.pennies(w, 0, 0, NONE));
        if (w > 0) {
            answered("meet one" + who, x -> x.meet(w, 0, 0));
            answered("meet other, where" + who, x -> x.meet(0, w, 1));
        }
    }

    private static void full() {
        for (int n = 1; n <= 8; n++) {
            int more = n;
            row("write of " + n + " to 200", FULL, x -> x.write(0x3b3b3b3b3b3b3b3bL, more));
        }
        row("write of 0 to 200", OUTSIDE, x -> x.write(0, 0));
        row("write of 9 to 200", OUTSIDE, x -> x.write(0, 9));
    }

    private static void fullOfBeats() {
        for (int n : new int[] {1, 2, 99, 998, 999}) {
            row("go " + n + " behind 99999", FULL, x -> x.go(n));
        }
        row("go 1000 behind 99999", OUTSIDE, x -> x.go(1000));
        row("go 0 behind 99999", OUTSIDE, x -> x.go(0));
        row("town of an empty text", NOT, x -> x.town());
        row("back to what was not kept", NOT, x -> x.back(0));
    }

    /** Nobody there: a WALKER's number is UNKNOWN ahead of all else, and nothing was kept. */
    private static void newObject() {
        noSuchCorner(2, 0);
        noSuchWalker(0);
        row("back 0", NOT, x -> x.back(0));
        row("back 1", NOT, x -> x.back(1));
        row("back 2", UNKNOWN, x -> x.back(2));
        row("turn 0", NOT, x -> x.turn(0));
        row("turn 1", NOT, x -> x.turn(1));
        row("town", NOT, x -> x.town());
        row("as 2", NOT, x -> x.as(1, 2));
    }

    public static void main(String[] args) {
        noSuchCorner(8, 5);
        noSuchWalker(5);
        noSuchPlaceToKeep();
        numbersOutside();
        whatsOutside();
        meetOutside();
        notNow();
        within(8, 5);
        holdRows("a large town", RefusalTests::largeTown);
        noSuchCorner(2, 1);
        noSuchWalker(1);
        noSuchWay();
        noSuchPlaceToKeep();
        numbersOutside();
        whatsOutside();
        row("back to what was not kept", NOT, x -> x.back(0));
        within(2, 1);
        holdRows("a small town", RefusalTests::smallTown);
        full();
        holdRows("a full text", RefusalTests::fullText);
        fullOfBeats();
        holdRows("99999 BEATS", RefusalTests::fullBeats);
        newObject();
        holdRows("a new object", NextWay::new);
        finish("what is refused changes nothing");
    }
}
