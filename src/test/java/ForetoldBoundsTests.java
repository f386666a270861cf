/**
 * The document's sentences on what is FORETOLD (Terms 3, promises 15 to 25) that name a bound: each has a test of its own,
 * with the last that is within and the first that is without.
 */
public final class ForetoldBoundsTests extends TownTest {
    /** Chains of so many BEATS to their last CORNER, which nobody LEAVES; the chain of 99 tells how they come about. */
    private static NextWay chainOf99() {
        return chain(1, 3, 1, 4, 3);
    }

    private static NextWay chainOf100() {
        return chain(4, 1, 4, 4);
    }

    private static NextWay chainOf999() {
        return chain(2, 3, 4, 2, 4, 3);
    }

    private static NextWay chainOf1000() {
        return chain(2, 3, 4, 2, 3, 4);
    }

    /** LATER: 'the CORNER of a WALKER in t BEATS (0 .. 99), the VANE of a CORNER then'. */
    private static void later() {
        NextWay x = tell(chainOf99(), "walker 0");
        String before = state(x);
        due("in 0", x.later(0, 0, 0), 0);
        due("in 1", x.later(0, 1, 0), 1);
        due("in 98", x.later(0, 98, 0), 4);
        due("in 99", x.later(0, 99, 0), 5);
        due("vane in 0", x.later(1, 0, 1), 0);
        due("vane in 1", x.later(1, 1, 1), 0);
        due("vane in 2", x.later(1, 2, 1), 1);
        due("vane in 98", x.later(4, 98, 1), 2);
        due("vane in 99", x.later(4, 99, 1), 0);
        due("no vane in 0", x.later(5, 0, 1), NONE);
        due("no vane in 99", x.later(5, 99, 1), NONE);
        for (int what = 0; what < 2; what++) {
            due("in 100", x.later(0, 100, what), OUTSIDE);
            due("in -1", x.later(0, -1, what), OUTSIDE);
        }
        due("what 2", x.later(0, 0, 2), OUTSIDE);
        due("what -1", x.later(0, 0, -1), OUTSIDE);
        same("nothing changes", state(x), before);
        due("from then", tell(chainOf100(), "walker 0").later(0, 99, 0), 3);
    }

    /** later: 'OUTSIDE: what; UNKNOWN; OUTSIDE: t', in this order. */
    private static void laterRefused() {
        NextWay x = town("town 3;way 0 1;walker 0");
        due("what ahead of which", x.later(9, 0, 2), OUTSIDE);
        due("which ahead of t, walker", x.later(1, 100, 0), UNKNOWN);
        due("which ahead of t, corner", x.later(3, -1, 1), UNKNOWN);
        due("a corner that is no walker", x.later(2, 0, 0), UNKNOWN);
        due("a corner that is no walker, its vane", x.later(2, 0, 1), NONE);
        due("below 0, walker", x.later(-1, 0, 0), UNKNOWN);
        due("below 0, corner", x.later(-1, 0, 1), UNKNOWN);
        due("t last", x.later(0, 100, 0), OUTSIDE);
    }

    /** WHEN: 'in how many BEATS (0 .. 999); none'. */
    private static void when() {
        NextWay x = tell(chainOf999(), "walker 0");
        String before = state(x);
        due("at once", x.when(0, 0), 0);
        due("in 999", x.when(0, 6), 999);
        same("nothing changes", state(x), before);
        NextWay y = tell(chainOf1000(), "walker 0");
        due("in 1000", y.when(0, 6), NONE);
        y.go(1);
        due("in 1000 less 1", y.when(0, 6), 999);
        due("never", town("town 3;way 0 1;way 1 0;walker 0").when(0, 2), NONE);
        due("first, not last", town("town 3;way 0 1;way 1 0;walker 0").when(0, 1), 1);
    }

    /** OFTEN: 'behind how many of the next T BEATS (1 .. 999) he is there'. */
    private static void often() {
        NextWay x = tell(chainOf999(), "walker 0;walker 6");
        String before = state(x);
        due("of 998", x.often(0, 6, 998), 0);
        due("of 999", x.often(0, 6, 999), 1);
        due("of 1, who stays", x.often(1, 6, 1), 1);
        due("of 999, who stays", x.often(1, 6, 999), 999);
        due("of 1, back at his own", x.often(0, 0, 1), 1);
        due("of 2, away", x.often(0, 0, 2), 1);
        due("of 0", x.often(0, 6, 0), OUTSIDE);
        due("of 1000", x.often(0, 6, 1000), OUTSIDE);
        same("nothing changes", state(x), before);
        NextWay y = town("way 0 1;way 1 0;walker 0");
        due("now does not count", y.often(0, 0, 1), 0);
        due("the last one counts", y.often(0, 0, 2), 1);
    }

    /** MEET: 'in how many BEATS (0 .. 999) two WALKERS are at one CORNER first, where; none'. */
    private static void meet() {
        NextWay x = tell(chainOf999(), "walker 0;walker 6;walker 0");
        String before = state(x);
        due("in 0", x.meet(0, 2, 0), 0);
        due("in 0, where", x.meet(2, 0, 1), 0);
        due("in 0, where", tell(chainOf999(), "walker 5;walker 5").meet(0, 1, 1), 5);
        same("nothing changes", state(x), before);
        NextWay y = tell(chainOf999(), "walker 0;walker 6");
        due("in 999", y.meet(0, 1, 0), 999);
        due("in 999, where", y.meet(1, 0, 1), 6);
        NextWay z = tell(chainOf1000(), "walker 0;walker 6");
        due("in 1000", z.meet(0, 1, 0), NONE);
        due("in 1000, where", z.meet(0, 1, 1), NONE);
        z.go(1);
        due("in 1000 less 1", z.meet(0, 1, 0), 999);
        due("in 1000 less 1, where", z.meet(0, 1, 1), 6);
        NextWay past = town("way 0 1;way 1 0;walker 0;walker 1");
        due("past one another is not at one corner", past.meet(0, 1, 0), NONE);
    }

    /** meet: 'UNKNOWN; OUTSIDE: what, one and himself'. */
    private static void meetRefused() {
        NextWay x = town(repeat("walker 0", 5, ";"));
        due("the last two", x.meet(3, 4, 0), 0);
        due("the last and himself", x.meet(4, 4, 0), OUTSIDE);
        due("the first and himself", x.meet(0, 0, 1), OUTSIDE);
        due("no sixth", x.meet(5, 0, 0), UNKNOWN);
        due("no sixth, other", x.meet(0, 5, 0), UNKNOWN);
        due("below 0", x.meet(-1, 0, 0), UNKNOWN);
        due("below 0, other", x.meet(0, -1, 0), UNKNOWN);
        due("unknown ahead of himself", x.meet(5, 5, 0), UNKNOWN);
        due("unknown ahead of what", x.meet(0, 5, 2), UNKNOWN);
        due("what 2", x.meet(0, 1, 2), OUTSIDE);
        due("what -1", x.meet(0, 1, -1), OUTSIDE);
    }

    /** ROUND: 'none: not in 999 BEATS both together'; BEATS ahead of a CORNER that nobody LEAVES. */
    private static void roundAhead() {
        NextWay x = chainOf999();
        String before = state(x);
        due("999 ahead, 1 later", x.round(0, 0), NONE);
        due("999 ahead, 1 later", x.round(0, 1), NONE);
        same("nothing changes", state(x), before);
        due("one BEAT of the 999 by hand", x.turn(0), 1);
        due("998 ahead", x.round(0, 0), 998);
        due("1 later", x.round(0, 1), 1);
        due("0 ahead", x.round(6, 0), 0);
        due("1 later", x.round(6, 1), 1);
    }

    /** ROUND: 'both together', all of them later: 999 and 1000. */
    private static void roundLater() {
        NextWay x = tell(chain(3, 4, 1, 3, 3, 3, 2), "way 7 0");
        due("999 later", x.round(0, 1), 999);
        due("none ahead", x.round(0, 0), 0);
        NextWay y = tell(chainOf999(), "way 6 0");
        due("1000 later", y.round(0, 1), NONE);
        due("1000 later, ahead", y.round(0, 0), NONE);
        NextWay z = tell(chain(4, 4, 4, 4, 4, 4, 4), "way 7 0");
        due("21845 later", z.round(0, 1), NONE);
        due("21845 later, ahead", z.round(0, 0), NONE);
        due("1 later", town("way 0 0").round(0, 1), 1);
        due("2 later: vanes count", town("way 0 0;way 0 0").round(0, 1), 2);
    }

    /** ROUND: 'both together', some ahead and some later: 2 and 997, 3 and 997. */
    private static void roundBoth() {
        NextWay x = town("town 8;way 7 0;way 7 7");
        int[] ways = {2, 3, 4, 3, 2, 4};
        for (int i = 0; i < 6; i++) {
            tell(x, "way " + i + " " + (i + 1) + repeat(";way " + i + " 0", ways[i] - 1, ""));
        }
        tell(x, "way 6 0");
        due("2 ahead", x.round(7, 0), 2);
        due("997 later", x.round(7, 1), 997);
        tell(x, "way 7 7");
        due("3 ahead", x.round(7, 0), NONE);
        due("3 ahead, later", x.round(7, 1), NONE);
    }

    /** QUICK: 'in 99 BEATS at most' (the most there can be are 7); 'none'. */
    private static void quick() {
        NextWay x = chain(4, 4, 4, 4, 4, 4, 4);
        String before = state(x);
        due("7 BEATS", x.quick(0, 7, NONE), 7);
        for (int i = 0; i < 7; i++) {
            due("vane of " + i, x.quick(0, 7, i), 3);
        }
        due("it has no ways", x.quick(0, 7, 7), NONE);
        due("another one: itself", x.quick(0, 0, NONE), 0);
        due("itself, row", x.quick(0, 0, 6), 0);
        due("none", x.quick(7, 0, NONE), NONE);
        due("none, row", x.quick(7, 0, 0), NONE);
        due("i n", x.quick(0, 7, 8), UNKNOWN);
        due("i most", x.quick(0, 7, MOST), UNKNOWN);
        due("i -2", x.quick(0, 7, -2), OUTSIDE);
        due("i least", x.quick(0, 7, LEAST), OUTSIDE);
        due("unknown ahead of i", x.quick(8, 7, -2), UNKNOWN);
        due("unknown ahead of i", x.quick(0, 8, -2), UNKNOWN);
        same("nothing changes", state(x), before);
        due("not through a spring", tell(x, "spring 3").quick(0, 7, NONE), NONE);
        due("to a spring", x.quick(0, 3, NONE), 3);
        due("no way leads there", town("town 3;way 1 2;way 2 1;way 0 1").quick(1, 0, NONE), NONE);
    }

    /** QUICK: 'each any of them': not by VANES now; each CORNER on his way has its own. */
    private static void quickVanes() {
        String ways = "town 4;way 0 0;way 0 0;way 0 1;way 0 0;way 1 0;way 1 2;way 1 0;way 1 0";
        NextWay x = town(ways, "way 2 0;way 2 0;way 2 0;way 2 3;vane 0 3;vane 1 2");
        due("three BEATS", x.quick(0, 3, NONE), 3);
        int[] row = {1, 0, 2, NONE};
        for (int i = 0; i < 4; i++) {
            due("vane of " + i, x.quick(0, 3, i), row[i]);
        }
        x.turn(0);
        x.turn(2);
        due("by other vanes now, BEATS", x.quick(0, 3, NONE), 3);
        for (int i = 0; i < 4; i++) {
            due("by other vanes now, vane of " + i, x.quick(0, 3, i), row[i]);
        }
        due("as slow by any vanes now", x.slow(0, 3), 84);
    }

    /** 'ONE ALONE is one who goes from a told CORNER, nobody else', by VANES now, those of the last CORNER, too. */
    private static void alone() {
        String ways = "town 8;way 7 0;way 7 1;way 7 2;way 7 3;way 3 7;way 2 7;spring 0;vane 7 2";
        for (String others : new String[] {"nobody", repeat("walker 7", 5, ";")}) {
            NextWay x = town(ways, others);
            due("round, ahead, " + others, x.round(7, 0), 3);
            due("round, later, " + others, x.round(7, 1), 1);
            due("shares, " + others, x.shares(7, 1, 0), 1);
            due("shares of two, " + others, x.shares(7, 2, 1), 1);
            due("past, " + others, x.past(2, 1, 1), 128);
            due("past of two, " + others, x.past(7, 2, 1), 128);
            due("quick, " + others, x.quick(7, 3, 7), 2);
            due("slow, " + others, x.slow(3, 7), 1);
            x.turn(7);
            due("round by vane 3, " + others, x.round(7, 0), 1);
            due("shares by vane 3, " + others, x.shares(7, 1, 0), 1);
            due("past by vane 3, " + others, x.past(3, 1, 1), 128);
        }
    }

    /** QUICK: 'of several the first row (by CORNERS, less first)'; a SPRING's VANE is one of the row. */
    private static void quickRows() {
        NextWay x = town("town 4;way 0 3;way 0 3;way 0 1;way 0 3;vane 0 2");
        due("by way 0, 1 or 3: vane 0 comes first", x.quick(0, 3, 0), 0);
        due("by way 2 alone", x.quick(0, 1, 0), 1);
        NextWay y = town("town 5;way 4 0;way 4 1;way 0 0;way 0 3;way 1 3;spring 2;way 2 0;way 2 0;vane 2 1");
        due("two BEATS", y.quick(4, 3, NONE), 2);
        due("corner 0 first", y.quick(4, 3, 0), 0);
        due("then corner 4", y.quick(4, 3, 4), 0);
        due("a spring's vane", y.quick(4, 3, 2), 0);
        NextWay z = town("town 5;way 4 0;way 4 1;way 0 3;way 0 0;way 1 3;vane 4 1");
        due("corner 0 goes ahead of corner 4", z.quick(4, 3, 0), 0);
        due("so by corner 1", z.quick(4, 3, 4), 0);
        due("against", tell(z, "against 4;against 0").quick(4, 0, 4), 1);
        due("second", tell(z, "second 4").quick(4, 0, 4), 0);
    }

    /** SLOW: 'none: by some row not in 99 BEATS'. */
    private static void slow() {
        NextWay x = chainOf99();
        String before = state(x);
        due("in 99", x.slow(0, 5), 99);
        due("at once", x.slow(0, 0), 0);
        due("never", x.slow(5, 0), NONE);
        same("nothing changes", state(x), before);
        due("in 100", chainOf100().slow(0, 4), NONE);
        due("a shorter part of it", chainOf100().slow(0, 3), 24);
        NextWay y = town("town 3;way 0 1;way 0 2;way 1 1");
        due("by some row never", y.slow(0, 2), NONE);
        due("by each row", tell(y, "way 1 2").slow(0, 2), 3);
        due("from n", y.slow(3, 0), UNKNOWN);
        due("to n", y.slow(0, 3), UNKNOWN);
        due("from -1", y.slow(-1, 0), UNKNOWN);
        due("to -1", y.slow(0, -1), UNKNOWN);
    }

    /** PENNIES: 'a WALKER is at a CORNER in T BEATS (0 .. 99) at most'. */
    private static void penniesInTime() {
        NextWay x = tell(chainOf99(), "walker 0");
        String before = state(x);
        due("his own in 0", x.pennies(0, 0, 0, NONE), 0);
        due("the next in 0", x.pennies(0, 1, 0, NONE), NONE);
        due("the next in 0, row", x.pennies(0, 1, 0, 0), NONE);
        due("the next in 1", x.pennies(0, 1, 1, NONE), 0);
        due("the last in 99", x.pennies(0, 5, 99, NONE), 0);
        due("the last in 98", x.pennies(0, 5, 98, NONE), 1);
        due("the last in 100", x.pennies(0, 5, 100, NONE), OUTSIDE);
        due("in -1", x.pennies(0, 0, -1, NONE), OUTSIDE);
        same("nothing changes", state(x), before);
        NextWay y = tell(chainOf100(), "walker 0");
        due("100 in 99", y.pennies(0, 4, 99, NONE), 1);
        due("the first row", y.pennies(0, 4, 99, 0), 0);
        due("the first row", y.pennies(0, 4, 99, 3), 1);
        y.go(1);
        due("99 in 99", y.pennies(0, 4, 99, NONE), 0);
    }

    /** PENNIES: 'the fewest (0 .. 4)'. */
    private static void penniesOfFour() {
        NextWay x = town("town 3;way 0 1;way 0 0;way 0 0;way 0 0;way 1 2;way 1 0;way 1 0;walker 0");
        due("five", x.pennies(0, 2, 2, NONE), NONE);
        due("five, row", x.pennies(0, 2, 2, 0), NONE);
        tell(x, "vane 1 1");
        due("four", x.pennies(0, 2, 2, NONE), 4);
        due("three of them", x.pennies(0, 2, 2, 0), 3);
        due("one of them", x.pennies(0, 2, 2, 1), 1);
        due("none of them", x.pennies(0, 2, 2, 2), 0);
        tell(x, "vane 0 3;vane 1 2");
        due("none", x.pennies(0, 2, 2, NONE), 0);
        due("none, row", x.pennies(0, 2, 2, 0), 0);
        NextWay y = town("town 8;way 7 0;way 7 7;walker 7");
        due("of the last corner", y.pennies(0, 0, 1, NONE), 1);
        due("of the last corner, row", y.pennies(0, 0, 1, 7), 1);
        due("i n", y.pennies(0, 0, 1, 8), UNKNOWN);
        due("i most", y.pennies(0, 0, 1, MOST), UNKNOWN);
        due("i -2", y.pennies(0, 0, 1, -2), OUTSIDE);
        due("i least", y.pennies(0, 0, 1, LEAST), OUTSIDE);
    }

    /** PENNIES: 'of several rows of turns by CORNERS the first (less first)'. */
    private static void penniesRows() {
        NextWay x = town("town 4;way 0 1;way 0 2;way 0 3;way 2 3;way 2 0;walker 0");
        due("by a turn of corner 0, or of 2", x.pennies(0, 3, 2, NONE), 1);
        due("not corner 0", x.pennies(0, 3, 2, 0), 0);
        due("but corner 2", x.pennies(0, 3, 2, 2), 1);
        due("in 1 by a turn of corner 0 alone", x.pennies(0, 3, 1, 0), 1);
        NextWay y = town("town 3;way 0 1;way 0 1;way 0 0;way 1 2;way 1 1;walker 0;vane 0 1");
        due("by turns of both", y.pennies(0, 2, 2, NONE), 2);
        due("of corner 0 one", y.pennies(0, 2, 2, 0), 1);
        due("of corner 1 one", y.pennies(0, 2, 2, 1), 1);
    }

    /** PENNIES: '(Of SPRINGS, CORNERS without WAYS none.)'. */
    private static void penniesOfSprings() {
        NextWay x = town("town 4;way 0 1;way 0 2;spring 1;way 1 3;way 1 3;walker 0;walker 1");
        due("through a spring", x.pennies(0, 3, 99, NONE), NONE);
        due("of a spring", x.pennies(1, 3, 99, NONE), NONE);
        due("to a spring", x.pennies(0, 1, 1, NONE), 1);
        due("turns of a spring", x.pennies(0, 1, 1, 1), 0);
        due("turns without ways", x.pennies(0, 1, 1, 3), 0);
        due("no such row, spring", x.pennies(0, 3, 99, 1), NONE);
        due("no such row, without ways", x.pennies(0, 3, 99, 3), NONE);
        due("of a plain one", tell(x, "plain 1").pennies(0, 3, 2, NONE), 1);
    }

    /** SHARES: 'if m (1 .. 99) go one behind the other'. */
    private static void shares() {
        NextWay x = town("town 5;way 0 1;way 0 2;way 0 3;way 0 4");
        String before = state(x);
        due("m 0", x.shares(0, 0, 1), OUTSIDE);
        due("m 1", x.shares(0, 1, 1), 0);
        due("m 1", x.shares(0, 1, 2), 1);
        due("m 3", x.shares(0, 3, 1), 0);
        due("m 4", x.shares(0, 4, 1), 1);
        due("m 98", x.shares(0, 98, 4), 24);
        due("m 99", x.shares(0, 99, 4), 25);
        due("m 99", x.shares(0, 99, 1), 24);
        due("m 100", x.shares(0, 100, 1), OUTSIDE);
        due("m 99 at once", x.shares(4, 99, 4), 99);
        due("m 99 at once, another", x.shares(4, 99, 3), 0);
        due("nobody ends where one LEAVES", x.shares(0, 99, 0), 0);
        due("from n", x.shares(5, 1, 1), UNKNOWN);
        due("at n", x.shares(0, 1, 5), UNKNOWN);
        due("unknown ahead of m", x.shares(0, 0, 5), UNKNOWN);
        same("nothing changes", state(x), before);
    }

    /** SHARES: 'one who does not within 999 BEATS ends nowhere, VANES then are as he left them'. */
    private static void sharesInTime() {
        due("in 999", chainOf999().shares(0, 1, 6), 1);
        due("in 1000", chainOf1000().shares(0, 1, 6), 0);
        due("the next one goes on by his vanes", chainOf1000().shares(0, 2, 6), 1);
        due("and so on", chainOf1000().shares(0, 4, 6), 2);
        due("never", town("way 0 0;way 1 0").shares(1, 99, 0), 0);
        NextWay x = chainOf1000();
        x.turn(0);
        due("in 1000 less 1", x.shares(0, 1, 6), 1);
    }

    /** SETTLED: 'none: one is not within 999 BEATS': five WALKERS never need more than 340, so it is those or never. */
    private static void settled() {
        NextWay x = tell(chain(4, 4, 4, 4), "walker 0;walker 1;walker 2;walker 3;walker 0");
        String before = state(x);
        due("340 BEATS, rising", x.settled(0), 31);
        due("340 BEATS, falling", x.settled(1), 31);
        due("what 2", x.settled(2), OUTSIDE);
        due("what -1", x.settled(-1), OUTSIDE);
        same("nothing changes", state(x), before);
        due("nobody, rising", new NextWay().settled(0), 0);
        due("nobody, falling", new NextWay().settled(1), 0);
        due("one at his own", town("way 0 1;walker 0").settled(0), 1);
        due("two, by one BEAT", town("way 0 1;walker 0;walker 0").settled(1), 3);
        due("three in two corners", town("way 0 1;way 1 0;walker 0;walker 0;walker 0").settled(0), NONE);
        due("two in a spring", town("way 0 1;spring 0;walker 0;walker 0").settled(0), NONE);
        due("two without ways", town("walker 1;walker 1").settled(1), NONE);
        NextWay y = town("town 8", "walker 7;walker 6;walker 5;walker 4;walker 3");
        due("five at their own", y.settled(0), 248);
        due("five at their own, falling", y.settled(1), 248);
    }

    /** SETTLED: 'by their numbers rising, or falling': where the first of them stays, the other must go on. */
    private static void settledByOrder() {
        NextWay x = town("town 4;way 0 1;way 0 2;way 2 2;way 2 3;way 1 3;walker 0;walker 0;walker 2");
        due("rising: 0, 2 and on to 3", x.settled(0), 1 | 4 | 8);
        due("falling: 2, 0 and on by 2 to 3", x.settled(1), 4 | 1 | 8);
        NextWay y = town("town 3;way 0 1;way 1 2;walker 1;walker 0;walker 0");
        due("rising: 1, 0, through 1 to 2", y.settled(0), 7);
        due("falling: 0, 1, at 1 on to 2", y.settled(1), 7);
        NextWay z = town("town 4;way 0 1;way 0 2;spring 1;way 2 3;walker 0;walker 0;walker 1");
        due("rising", z.settled(0), 7);
        due("falling", z.settled(1), 7);
        tell(z, "vane 0 1");
        due("rising: 0, 1, and one in the spring", z.settled(0), NONE);
        due("falling: 1, 0, and one in the spring", z.settled(1), NONE);
    }

    /** PAST: 'in the last t BEATS (1 .. 6)'. */
    private static void past() {
        NextWay x = town("town 8;way 0 1;way 1 2;way 2 3;way 3 4;way 4 5;way 5 6;way 6 7");
        String before = state(x);
        for (int t = 1; t <= 6; t++) {
            due("rows of " + t, x.past(7, t, 0), 1);
            due("where " + t + " ago", x.past(7, t, 1), 1 << 7 - t);
            due("rows to " + t, x.past(t, t, 0), 1);
            due("from the first", x.past(t, t, 1), 1);
            due("one BEAT more than there was, to " + (t - 1), x.past(t - 1, t, 0), 0);
            due("nowhere", x.past(t - 1, t, 1), 0);
        }
        due("t 0", x.past(7, 0, 0), OUTSIDE);
        due("t 7", x.past(7, 7, 0), OUTSIDE);
        due("t -1", x.past(7, -1, 1), OUTSIDE);
        due("what 2", x.past(7, 1, 2), OUTSIDE);
        due("what -1", x.past(7, 1, -1), OUTSIDE);
        due("corner n", x.past(8, 1, 0), UNKNOWN);
        due("corner -1", x.past(-1, 1, 0), UNKNOWN);
        due("unknown ahead of t", x.past(8, 0, 0), UNKNOWN);
        same("nothing changes", state(x), before);
    }

    /** PAST: rows by all CORNERS whose VANES show the WAY; of SPRINGS, CORNERS without WAYS he cannot have come. */
    private static void pastRows() {
        NextWay x = town("town 8;way 1 0;way 2 0;way 3 0;way 4 0;way 5 0;way 6 0;way 7 0");
        due("seven rows", x.past(0, 1, 0), 7);
        due("seven corners", x.past(0, 1, 1), 254);
        tell(x, "way 0 0");
        due("eight rows", x.past(0, 1, 0), 8);
        due("eight corners", x.past(0, 1, 1), 255);
        due("eight rows of six", x.past(0, 6, 0), 8);
        tell(x, "spring 7;way 6 1;vane 6 1");
        due("not of a spring, not by another vane", x.past(0, 1, 1), 63);
        due("into a spring he came", town("way 0 1;spring 1;way 1 1").past(1, 1, 1), 1);
        due("he did not stand there", town("way 0 1;spring 1;way 1 1").past(1, 2, 0), 0);
        due("nor where there are no ways", town("way 0 1").past(1, 2, 0), 0);
        due("nobody came", new NextWay().past(1, 6, 0), 0);
        NextWay most = town("town 8", repeat("way 0 0", 4, ";") + ";" + repeat("way 1 0", 4, ";"));
        due("rows of six by two corners", most.past(0, 6, 0), 2);
    }

    public static void main(String[] args) {
        later();
        laterRefused();
        when();
        often();
        meet();
        meetRefused();
        roundAhead();
        roundLater();
        roundBoth();
        quick();
        quickVanes();
        quickRows();
        alone();
        slow();
        penniesInTime();
        penniesOfFour();
        penniesRows();
        penniesOfSprings();
        shares();
        sharesInTime();
        settled();
        settledByOrder();
        past();
        pastRows();
        finish("the bounds of what is foretold hold");
    }
}
