/**
 * The document's sentences on CORNERS and BEATS (Terms 2, promises 6 to 14, and 26) that name a bound: each has a test of
 * its own, with the last that is within and the first that is without.
 */
public final class BeatBoundsTests extends TownTest {
    private static final String[] KINDS = {"plain", "against", "second", "spring"};

    /** The VANE behind a turn: by KIND, by how many WAYS (less 1), by the VANE ahead of it. */
    private static final int[][][] TURNED = {
        {{0}, {1, 0}, {1, 2, 0}, {1, 2, 3, 0}},
        {{0}, {1, 0}, {2, 0, 1}, {3, 0, 1, 2}},
        {{0}, {0, 1}, {2, 0, 1}, {2, 3, 0, 1}}};

    /** CORNER 0 of a KIND with WAYS to 1, 2 .., its VANE at v, one WALKER there. */
    private static NextWay fork(int kind, int ways, int v) {
        StringBuilder text = new StringBuilder("town 5");
        for (int i = 1; i <= ways; i++) {
            text.append(";way 0 ").append(i);
        }
        return town(text.toString(), KINDS[kind] + " 0;vane 0 " + v + ";walker 0");
    }

    /** 'PLAIN by 1, AGAINST by 1 back, SECOND by 2 (modulo w)': from each VANE of 1, 2, 3, 4 WAYS. */
    private static void turnsRound() {
        for (int kind = 0; kind < 3; kind++) {
            for (int ways = 1; ways <= 4; ways++) {
                for (int v = 0; v < ways; v++) {
                    String what = KINDS[kind] + ", vane " + v + " of " + ways;
                    int want = TURNED[kind][ways - 1][v];
                    NextWay x = fork(kind, ways, v);
                    due(what + ", as", x.as(0, 0), want + 1);
                    due(what + ", later", x.later(0, 1, 0), want + 1);
                    due(what + ", vane later", x.later(0, 1, 1), want);
                    due(what + ", when", x.when(0, want + 1), 1);
                    due(what + ", not yet", x.corner(0, 2), v);
                    x.go(1);
                    due(what + ", walker", x.walker(0), want + 1);
                    due(what + ", vane", x.corner(0, 2), want);
                    NextWay y = fork(kind, ways, v);
                    due(what + ", by hand", y.turn(0), want);
                    due(what + ", vane by hand", y.corner(0, 2), want);
                    due(what + ", nobody went", y.walker(0), 0);
                }
            }
        }
    }

    /** PAST turns VANES the other way about: u was the VANE ahead of v, so he came by u ahead of that. */
    private static void turnsBackRound() {
        for (int kind = 0; kind < 3; kind++) {
            for (int ways = 1; ways <= 4; ways++) {
                for (int u = 0; u < ways; u++) {
                    int v = TURNED[kind][ways - 1][u];
                    StringBuilder only = new StringBuilder("town 2");
                    StringBuilder but = new StringBuilder("town 2");
                    for (int i = 0; i < ways; i++) {
                        only.append(";way 0 ").append(i == u || i == v ? 0 : 1);
                        but.append(";way 0 ").append(i == u && i != v ? 1 : 0);
                    }
                    String rest = ";" + KINDS[kind] + " 0;vane 0 " + v;
                    String what = KINDS[kind] + ", vane " + u + " ahead of " + v + " of " + ways;
                    due(what, town(only + rest).past(0, 2, 0), 1);
                    due(what + " led away", town(but + rest).past(0, 2, 0), u == v ? 1 : 0);
                }
            }
        }
    }

    /** 'of a SPRING nobody LEAVES', however many WAYS it has. */
    private static void springs() {
        for (int ways = 1; ways <= 4; ways++) {
            NextWay x = fork(3, ways, ways - 1);
            String before = state(x);
            due("as a spring", x.as(0, 4), NONE);
            due("as a corner", x.as(0, 0), NONE);
            due("turn", x.turn(0), NOT);
            due("never left", x.count(4), 31);
            due("round", x.round(0, 0), 0);
            due("round of one beat", x.round(0, 1), 1);
            due("quick", x.quick(0, 1, NONE), NONE);
            due("slow", x.slow(0, 1), NONE);
            due("when", x.when(0, ways), NONE);
            due("pennies", x.pennies(0, ways, 99, NONE), NONE);
            due("shares", x.shares(0, 99, 0), 99);
            due("past", x.past(ways, 1, 0), 0);
            same("nothing changes", state(x), before);
            due("go", x.go(999), 999);
            due("he stays", x.walker(0), 0);
            due("the vane stays", x.corner(0, 2), ways - 1);
            due("a plain one is left", tell(x, "plain 0").count(4), 30);
            x.go(1);
            due("a plain one is left", x.corner(0, 3), 0);
        }
    }

    /** 'nor of a CORNER without WAYS', of whatever KIND; with one WAY, it is LEFT. */
    private static void withoutWays() {
        for (int kind = 0; kind < 4; kind++) {
            NextWay x = town("town 3;" + KINDS[kind] + " 2;walker 2");
            due("vane", x.corner(2, 2), NONE);
            due("as", x.as(2, 0), NONE);
            due("as its kind", x.as(2, kind + 1), NONE);
            due("turn", x.turn(2), NOT);
            due("later, vane", x.later(2, 99, 1), NONE);
            due("later", x.later(0, 99, 0), 2);
            due("never left", x.count(4), 7);
            due("round", x.round(2, 0), 0);
            due("round of one beat", x.round(2, 1), 1);
            due("quick", x.quick(2, 0, NONE), NONE);
            due("quick, row", x.quick(2, 2, 2), NONE);
            due("slow", x.slow(2, 0), NONE);
            due("shares", x.shares(2, 1, 2), 1);
            due("go", x.go(1), 1);
            due("he stays", x.walker(0), 2);
            tell(x, "way 2 0");
            due("one way: never left", x.count(4), kind == 3 ? 7 : 3);
            due("one way: as", x.as(2, kind + 1), kind == 3 ? NONE : 0);
            due("one way: turn", x.turn(2), kind == 3 ? NOT : 0);
            due("one way: vane", x.corner(2, 2), 0);
            x.go(1);
            due("one way: he goes", x.walker(0), kind == 3 ? 2 : 0);
        }
    }

    /** 'In a BEAT all WALKERS do so, one behind the other by numbers': five of them at a CORNER of four WAYS. */
    private static void oneBehindTheOther() {
        NextWay x = town("town 5;way 0 1;way 0 2;way 0 3;way 0 4", repeat("walker 0", 5, ";"));
        int[] at = {2, 3, 4, 1, 2};
        for (int w = 0; w < 5; w++) {
            due("later of " + w, x.later(w, 1, 0), at[w]);
        }
        x.go(1);
        for (int w = 0; w < 5; w++) {
            due("walker " + w, x.walker(w), at[w]);
        }
        due("vane", x.corner(0, 2), 1);
        due("two at 2, by bits", x.corner(2, 3), 1 | 16);
        NextWay y = town("town 3;way 0 1;way 1 2;way 1 0;vane 1 1;walker 1;walker 0");
        y.go(1);
        due("who comes in a BEAT goes on in the next", y.walker(1), 1);
        y.go(1);
        due("then he goes", y.walker(1), 0);
    }

    /** corner: 'KIND (what 0), how many WAYS (1), VANE (2; NONE without WAYS), WALKERS there (3, by bits)'. */
    private static void corner() {
        NextWay x = town("town 8;spring 7;way 7 0;way 7 0;way 7 0;way 7 0;vane 7 3;walker 7", repeat("walker 7", 4, ";"));
        due("the greatest kind", x.corner(7, 0), 3);
        due("the most ways", x.corner(7, 1), 4);
        due("the greatest vane", x.corner(7, 2), 3);
        due("all walkers", x.corner(7, 3), 31);
        due("no ways", x.corner(6, 1), 0);
        due("no vane", x.corner(6, 2), NONE);
        due("no walkers", x.corner(6, 3), 0);
        due("what 4", x.corner(7, 4), OUTSIDE);
        due("what below 0", x.corner(7, -1), OUTSIDE);
        x.put(4, 0);
        due("the last walker's bit", x.corner(0, 3), 16);
        due("the others' bits", x.corner(7, 3), 15);
        x.put(0, 0);
        due("the first walker's bit", x.corner(0, 3), 17);
    }

    /** as: 'AGAINST (2) is PLAIN; SECOND (3) is PLAIN; SPRING (4) is a CORNER'; 'NOT: it is none such'. */
    private static void as() {
        boolean[][] is = {{true, true, false, false, false}, {true, true, true, false, false},
            {true, true, false, true, false}, {true, false, false, false, true}};
        int[] to = {2, 3, 3, NONE};
        for (int kind = 0; kind < 4; kind++) {
            NextWay x = fork(kind, 3, 0);
            String before = state(x);
            for (int k = 0; k < 5; k++) {
                due(KINDS[kind] + " as " + k, x.as(0, k), is[kind][k] ? to[kind] : NOT);
            }
            due(KINDS[kind] + " as 5", x.as(0, 5), OUTSIDE);
            due(KINDS[kind] + " as -1", x.as(0, -1), OUTSIDE);
            same("nothing changes", state(x), before);
        }
    }

    /** go: 'n BEATS (1 .. 999) go: how many in all'. */
    private static void go() {
        NextWay x = tell(chain(2, 3, 4, 2, 4, 3), "walker 0");
        due("0", x.go(0), OUTSIDE);
        due("1000", x.go(1000), OUTSIDE);
        due("none went", x.count(3), 0);
        x.keep(0);
        due("998", x.go(998), 998);
        due("not there yet", x.walker(0), 5);
        due("1", x.go(1), 999);
        due("there", x.walker(0), 6);
        x.back(0);
        due("999", x.go(999), 999);
        due("there", x.walker(0), 6);
        due("in all", x.go(1), 1000);
    }

    /** go: 'FULL: above 99999 in all'. */
    private static void goFull() {
        NextWay x = town("way 0 1;way 1 0;way 1 0;walker 0");
        for (int i = 0; i < 100; i++) {
            x.go(999);
        }
        String before = state(x);
        for (int n : new int[] {100, 101, 998, 999}) {
            due("99900 and " + n, x.go(n), FULL);
        }
        same("nothing changes", state(x), before);
        due("outside ahead of full", x.go(1000), OUTSIDE);
        due("outside ahead of full", x.go(0), OUTSIDE);
        due("outside ahead of full", x.go(MOST), OUTSIDE);
        x.keep(1);
        due("99900 and 98", x.go(98), 99998);
        due("99998 and 2", x.go(2), FULL);
        due("99998 and 1", x.go(1), 99999);
        due("99999 and 1", x.go(1), FULL);
        due("he is where 99 BEATS brought him", x.walker(0), 1);
        due("99999", x.count(3), 99999);
        due("foretold all the same", x.later(0, 99, 0), 0);
        due("foretold all the same", x.when(0, 0), 1);
        due("back", x.back(1), 99900);
        due("room again", x.go(99), 99999);
        due("kept at the most", x.keep(0), 99999);
        due("back to the most", x.back(0), 99999);
        due("full there", x.go(1), FULL);
        due("a text begins anew", tell(x, "nobody").go(999), 999);
    }

    /** turn: 'as by one who LEAVES it: the VANE then'; 'NOT: nobody LEAVES it'. */
    private static void turn() {
        NextWay x = town("town 8;way 7 0;way 7 1;way 6 0;spring 6;walker 7");
        x.go(1);
        x.put(0, 7);
        due("the last corner, round", x.turn(7), 0);
        due("the last corner", x.turn(7), 1);
        String before = state(x);
        due("a spring", x.turn(6), NOT);
        due("without ways", x.turn(5), NOT);
        due("no corner", x.turn(8), UNKNOWN);
        due("below 0", x.turn(-1), UNKNOWN);
        same("nothing changes", state(x), before);
        due("no BEAT went", x.count(3), 1);
        due("nobody moved", x.walker(0), 7);
    }

    /** put: 'A WALKER is put at a CORNER: where he was'. */
    private static void put() {
        NextWay x = town("town 8;way 0 0;way 0 0;way 7 0;way 7 0", repeat("walker 0", 5, ";"));
        due("the last walker at the last corner", x.put(4, 7), 0);
        due("where he is", x.put(4, 7), 7);
        due("the first walker at the last corner", x.put(0, 7), 0);
        due("back again", x.put(0, 0), 7);
        due("the last walker is there", x.corner(7, 3), 16);
        due("the others stay", x.corner(0, 3), 15);
        due("vanes stay", x.corner(0, 2) + x.corner(7, 2), 0);
        due("no BEAT", x.count(3), 0);
        String before = state(x);
        due("a sixth", x.put(5, 7), UNKNOWN);
        due("below the first", x.put(-1, 7), UNKNOWN);
        due("the first corner that is none", x.put(4, 8), UNKNOWN);
        due("below corner 0", x.put(4, -1), UNKNOWN);
        same("nothing changes", state(x), before);
        due("nobody to put", new NextWay().put(0, 0), UNKNOWN);
    }

    /** keep: 'VANES, WALKERS, BEATS are kept (k 0, 1)'; back: 'They are as they were kept'. */
    private static void keepAndBack() {
        NextWay x = town("town 8;way 7 7;way 7 0;way 7 0;way 0 7;walker 7;walker 0");
        due("nothing kept, 0", x.back(0), NOT);
        due("nothing kept, 1", x.back(1), NOT);
        due("at BEAT 0", x.keep(0), 0);
        due("the other is not kept", x.back(1), NOT);
        String first = state(x);
        x.go(4);
        x.turn(7);
        x.put(1, 5);
        String second = state(x);
        due("at BEAT 4", x.keep(1), 4);
        due("k 2", x.keep(2), UNKNOWN);
        due("k -1", x.keep(-1), UNKNOWN);
        x.go(1);
        due("back to BEAT 0", x.back(0), 0);
        same("vanes, walkers, BEATS", state(x), first);
        due("back to BEAT 4", x.back(1), 4);
        same("vanes, walkers, BEATS", state(x), second);
        due("back k 2", x.back(2), UNKNOWN);
        due("back k -1", x.back(-1), UNKNOWN);
        same("nothing changes", state(x), second);
        x.go(3);
        due("kept anew", x.keep(0), 7);
        x.go(3);
        due("back to what was kept last", x.back(0), 7);
        write(x, "nobody");
        due("a text that is not told yet", x.back(1), 4);
        due("keeps the text", x.count(5), 6);
        x.town();
        due("nothing since the last text, 0", x.back(0), NOT);
        due("nothing since the last text, 1", x.back(1), NOT);
        due("unknown ahead of not", x.back(2), UNKNOWN);
        due("kept since the last text", x.keep(1), 0);
        due("the other one is not", x.back(0), NOT);
        due("back", x.back(1), 0);
    }

    /** count: '0 CORNERS, 1 WAYS, 2 WALKERS, 3 BEATS, 4 CORNERS that nobody LEAVES, by bits, 5 bytes of THE TEXT'. */
    private static void count() {
        NextWay x = new NextWay();
        int[] first = {2, 0, 0, 0, 3, 0};
        for (int what = 0; what < 6; what++) {
            due("at first " + what, x.count(what), first[what]);
        }
        tell(x, "town 8", repeat("walker 0", 5, ";"));
        due("all corners that nobody leaves", x.count(4), 255);
        for (int c = 0; c < 8; c++) {
            tell(x, repeat("way " + c + " 0", 4, ";"));
            due("but those with ways", x.count(4), 255 & -2 << c);
        }
        x.go(7);
        write(x, repeat(" ", 200, ""));
        int[] last = {8, 32, 5, 7, 0, 200};
        for (int what = 0; what < 6; what++) {
            due("at the most " + what, x.count(what), last[what]);
        }
        due("what 6", x.count(6), OUTSIDE);
        due("what -1", x.count(-1), OUTSIDE);
    }

    public static void main(String[] args) {
        turnsRound();
        turnsBackRound();
        springs();
        withoutWays();
        oneBehindTheOther();
        corner();
        as();
        go();
        goFull();
        turn();
        put();
        keepAndBack();
        count();
        finish("the bounds of corners and beats hold");
    }
}
