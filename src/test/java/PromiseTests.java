/** One test a promise of the document, with answers worked out by hand. */
public final class PromiseTests extends TownTest {
    private static void aNewObject() {
        NextWay x = new NextWay();
        same("1 new", state(x), "2 0 0 0 3 0 |00-10|00-10");
        due("1 way", x.way(0, 0), UNKNOWN);
        due("1 walker", x.walker(0), UNKNOWN);
        due("1 back 0", x.back(0), NOT);
        due("1 back 1", x.back(1), NOT);
        due("1 fault", x.fault(), 0);
    }

    private static void write() {
        NextWay x = new NextWay();
        due("2 n 0", x.write(1, 0), OUTSIDE);
        due("2 n 9", x.write(1, 9), OUTSIDE);
        due("2 n least", x.write(1, LEAST), OUTSIDE);
        due("2 n most", x.write(1, MOST), OUTSIDE);
        due("2 none written", x.count(5), 0);
        due("2 one", x.write('n' | 0xffffff00L, 1), 1);
        due("2 two", x.write('o' | 'b' << 8 | 7L << 16, 2), 3);
        due("2 three", x.write('o' | 'd' << 8 | 'y' << 16, 3), 6);
        due("2 in order", x.fault(), NONE);
        due("2 eight", x.write(0x2020202020202020L, 8), 14);
        for (int i = 0; i < 23; i++) {
            x.write(0x2020202020202020L, 8);
        }
        due("2 198", x.count(5), 198);
        due("2 full", x.write(0x202020L, 3), FULL);
        due("2 full changes nothing", x.count(5), 198);
        due("2 outside ahead of full", x.write(0, 9), OUTSIDE);
        due("2 199", x.write(32, 1), 199);
        due("2 200", x.write(32, 1), 200);
        due("2 full at 200", x.write(32, 1), FULL);
        due("2 still whole", x.fault(), NONE);
        x.erase();
        x.write(0x80, 1);
        due("2 a byte above 127", x.fault(), 0);
        x.erase();
        x.write(0x8020202020202020L, 8);
        due("2 the top byte", x.fault(), 7);
    }

    private static void erase() {
        NextWay x = new NextWay();
        due("3 empty", x.erase(), 0);
        write(x, "nobody;nobody");
        due("3 how many", x.erase(), 13);
        due("3 empty then", x.count(5), 0);
        due("3 again", x.erase(), 0);
        write(x, "town 3");
        due("3 only what is new", x.fault(), NONE);
    }

    private static void faultOfWords() {
        due("4 empty", fault(""), 0);
        due("4 blanks", fault("   "), 3);
        for (String line : new String[] {"town 2", "town 8", "plain 1", "against 0", "second 1", "spring 0", "way 0 1",
            "walker 1", "nobody", "  town   3  ", "town3", "nobody ; nobody", "way0 1;vane0 0", " nobody;walker 1 "}) {
            due("4 " + line, fault(line), NONE);
        }
        due("4 no word", fault("church"), 0);
        due("4 part of a word", fault("tow 3"), 0);
        due("4 a longer word", fault("  towns 3"), 2);
        due("4 words joined", fault("nobodynobody"), 0);
        due("4 the last letter", fault("nobodyz"), 0);
        due("4 the first letter", fault("nobodya"), 0);
        due("4 capital", fault("Town 3"), 0);
        due("4 inside", fault("toWn 3"), 0);
        due("4 number first", fault("3"), 0);
        due("4 semicolon first", fault(";nobody"), 0);
        due("4 two semicolons", fault("nobody;;nobody"), 7);
        due("4 semicolon last", fault("nobody;"), 7);
        due("4 semicolon and blanks last", fault("nobody;  "), 9);
        due("4 no semicolon", fault("nobody nobody"), 7);
        due("4 point", fault("nobody."), 6);
        due("4 number too many", fault("nobody 1"), 7);
        due("4 third number", fault("way 0 1 1"), 8);
        due("4 new line is no blank", fault("town\n3"), 4);
        due("4 a sign in between", fault("town -3"), 5);
        due("4 end too soon", fault("town"), 4);
        due("4 end too soon, blanks", fault("way 0  "), 7);
        due("4 semicolon too soon", fault("way 0;nobody"), 5);
        due("4 word too soon", fault("way 0 way"), 6);
        due("4 sign behind letters", fault("`"), 0);
        due("4 sign behind digits", fault("town :"), 5);
    }

    private static void faultOfNumbers() {
        due("4 town 1", fault("town 1"), 5);
        due("4 town 9", fault("town 9"), 5);
        due("4 town 0", fault("town 0"), 5);
        due("4 two digits", fault("town 08"), 5);
        due("4 the last digit", fault("town 29"), 5);
        due("4 two digits of a corner", fault("walker 00"), 7);
        due("4 corner", fault("plain 2"), 6);
        due("4 corner behind a town", fault("town 3;plain 2"), NONE);
        due("4 corner behind a smaller town", fault("town 3;town 2;plain 2"), 20);
        due("4 way from", fault("way 2 0"), 4);
        due("4 way to", fault("way 0 2"), 6);
        due("4 against", fault("against 2"), 8);
        due("4 second", fault("second 2"), 7);
        due("4 spring", fault("spring 2"), 7);
        due("4 walker", fault("walker 2"), 7);
        due("4 vane corner", fault("vane 2 0"), 5);
        due("4 vane without ways", fault("vane 0 0"), 7);
        due("4 vane without ways, at the end", fault("vane 0"), 6);
        due("4 vane", fault("way 0 1;vane 0 0"), NONE);
        due("4 vane above", fault("way 0 1;vane 0 1"), 15);
        due("4 vane of another", fault("way 0 1;vane 1 0"), 15);
        due("4 vane behind town", fault("way 0 1;town 2;vane 0 0"), 22);
        due("4 four ways", fault("way 0 1;way 0 1;way 0 1;way 0 0"), NONE);
        due("4 a fifth", fault("way 0 1;way 0 1;way 0 1;way 0 0;way 0 9"), 36);
        due("4 a fifth of another", fault("way 0 1;way 0 1;way 0 1;way 0 0;way 1 0"), NONE);
        due("4 five walkers", fault("walker 0;walker 0;walker 0;walker 0;walker 0"), NONE);
        due("4 a sixth", fault("walker 0;walker 0;walker 0;walker 0;walker 0; walker 9"), 46);
        due("4 nobody ahead", fault("walker 0;walker 0;walker 0;walker 0;walker 0;nobody;walker 0"), NONE);
        due("4 town ahead", fault("walker 0;walker 0;walker 0;walker 0;walker 0;town 2;walker 0"), NONE);
        String twelve = "nobody;nobody;nobody;nobody;nobody;nobody;nobody;nobody;nobody;nobody;nobody;nobody";
        due("4 twelve lines", fault(twelve), NONE);
        due("4 a thirteenth", fault(twelve + " ;nobody"), 84);
    }

    private static void faultBehindWhatIsTold() {
        NextWay x = town("town 4;way 0 1;way 0 1;way 0 1;way 0 2;walker 0;walker 1;walker 2;walker 3");
        String before = state(x);
        due("4 corner as told", fault(x, "plain 3"), NONE);
        due("4 corner not told", fault(x, "plain 4"), 6);
        due("4 way as told", fault(x, "vane 0 3"), NONE);
        due("4 fifth way", fault(x, "way 0 1"), 4);
        due("4 fifth walker", fault(x, "walker 0"), NONE);
        due("4 sixth walker", fault(x, "walker 0;walker 0"), 9);
        due("4 a fault does nothing", fault(x, "town 2;nobody;spring 0;church"), 23);
        due("4 no fault does nothing", fault(x, "town 2;spring 0;way 0 0"), NONE);
        x.erase();
        same("4 nothing changes", state(x), before);
    }

    private static void townIsTold() {
        NextWay x = new NextWay();
        due("5 empty", x.town(), NOT);
        write(x, "town 5;way 0 1;way 0 2;against 0;second 1;spring 2;vane 0 1;walker 3;walker 4;walker 4");
        due("5 lines", x.town(), 10);
        same("5 told", state(x), "5 2 3 0 30 0 |1210|20-10|30-10|00-11|00-16");
        write(x, "nobody;town 9");
        String before = state(x);
        due("5 fault", x.town(), NOT);
        same("5 a fault changes nothing", state(x), before);
        x.erase();
        tell(x, "plain 0;way 0 3;nobody;walker 2");
        same("5 more told", state(x), "5 3 1 0 30 0 |0310|20-10|30-11|00-10|00-10");
        tell(x, "town 2");
        same("5 town anew", state(x), "2 0 0 0 3 0 |00-10|00-10");
        tell(x, "town 5;way 0 1;way 0 2;vane 0 1;walker 0", "town 2;way 0 1;way 0 0");
        due("5 vanes as at first", x.corner(0, 2), 0);
        due("5 nobody as at first", x.count(2), 0);
        tell(x, "town 5");
        same("5 all as at first", state(x), "5 0 0 0 31 0 |00-10|00-10|00-10|00-10|00-10");
    }

    private static void townBeginsAnew() {
        NextWay x = town("town 3;way 0 1;way 0 2;way 1 0;way 2 0;vane 0 1;walker 0;walker 1");
        due("5 go", x.go(3), 3);
        due("5 turn", x.turn(0), 1);
        due("5 put", x.put(1, 2), 0);
        due("5 keep", x.keep(0), 3);
        due("5 keep", x.keep(1), 3);
        tell(x, "walker 2");
        same("5 as told", state(x), "3 4 3 0 0 0 |0211|0102|0104");
        due("5 nothing is kept", x.back(0), NOT);
        due("5 nothing is kept", x.back(1), NOT);
        x.keep(0);
        write(x, "church");
        x.town();
        due("5 kept behind a fault", x.back(0), 0);
    }

    private static void corner() {
        NextWay x = town("town 4;way 0 1;way 0 2;way 0 3;against 1;second 2;spring 3;way 3 0;vane 0 2;walker 2;walker 0;walker 2");
        for (int kind = 0; kind < 4; kind++) {
            due("6 kind", x.corner(kind, 0), kind);
        }
        due("6 ways", x.corner(0, 1), 3);
        due("6 no ways", x.corner(1, 1), 0);
        due("6 vane", x.corner(0, 2), 2);
        due("6 vane without ways", x.corner(1, 2), NONE);
        due("6 vane of a spring", x.corner(3, 2), 0);
        due("6 walkers", x.corner(2, 3), 5);
        due("6 walker", x.corner(0, 3), 2);
        due("6 no walkers", x.corner(3, 3), 0);
        due("6 unknown", x.corner(4, 0), UNKNOWN);
        due("6 unknown below", x.corner(-1, 0), UNKNOWN);
        due("6 unknown ahead of outside", x.corner(MOST, 4), UNKNOWN);
        due("6 unknown least", x.corner(LEAST, LEAST), UNKNOWN);
        due("6 outside", x.corner(0, 4), OUTSIDE);
        due("6 outside below", x.corner(0, -1), OUTSIDE);
    }

    private static void way() {
        NextWay x = town("town 8;way 7 6;way 7 7;way 7 0;way 7 6;way 0 5");
        int[] ends = {6, 7, 0, 6};
        for (int v = 0; v < 4; v++) {
            due("7 way", x.way(7, v), ends[v]);
        }
        due("7 other", x.way(0, 0), 5);
        due("7 no such way", x.way(0, 1), UNKNOWN);
        due("7 fifth", x.way(7, 4), UNKNOWN);
        due("7 below", x.way(7, -1), UNKNOWN);
        due("7 none", x.way(1, 0), UNKNOWN);
        due("7 corner", x.way(8, 0), UNKNOWN);
        due("7 corner below", x.way(-1, 0), UNKNOWN);
        due("7 most", x.way(MOST, MOST), UNKNOWN);
        due("7 least", x.way(LEAST, LEAST), UNKNOWN);
    }

    private static void as() {
        NextWay x = town("town 6;way 0 1;way 0 2;way 0 3;way 1 1;way 1 2;way 1 3",
            "way 2 1;way 2 2;way 2 3;way 3 0;against 1;second 2;spring 3;against 4;spring 5");
        int[][] due = {{2, 2, NOT, NOT, NOT}, {3, 3, 3, NOT, NOT}, {3, 3, NOT, 3, NOT}, {NONE, NOT, NOT, NOT, NONE},
            {NONE, NONE, NONE, NOT, NOT}, {NONE, NOT, NOT, NOT, NONE}};
        String before = state(x);
        for (int c = 0; c < 6; c++) {
            for (int k = 0; k < 5; k++) {
                due("8 as(" + c + ", " + k + ")", x.as(c, k), due[c][k]);
            }
        }
        due("8 unknown", x.as(6, 5), UNKNOWN);
        due("8 unknown below", x.as(-1, 0), UNKNOWN);
        due("8 outside", x.as(3, 5), OUTSIDE);
        due("8 outside below", x.as(3, -1), OUTSIDE);
        same("8 nothing changes", state(x), before);
        tell(x, "vane 0 2;vane 1 1;vane 2 2");
        due("8 plain comes round", x.as(0, 1), 1);
        due("8 against", x.as(1, 0), 1);
        due("8 second comes round", x.as(2, 1), 2);
        tell(x, "town 2;way 0 1;second 0");
        due("8 second of one way", x.as(0, 3), 1);
    }

    private static void walker() {
        NextWay x = town("town 8;walker 7;walker 0;walker 3;walker 3;walker 6");
        int[] at = {7, 0, 3, 3, 6};
        for (int w = 0; w < 5; w++) {
            due("9 walker", x.walker(w), at[w]);
        }
        due("9 fifth", x.walker(5), UNKNOWN);
        due("9 below", x.walker(-1), UNKNOWN);
        due("9 most", x.walker(MOST), UNKNOWN);
        tell(x, "nobody;walker 2");
        due("9 anew", x.walker(0), 2);
        due("9 nobody else", x.walker(1), UNKNOWN);
    }

    private static void go() {
        NextWay x = town("town 4;way 0 1;way 0 2;way 0 3;way 1 0;way 2 0;spring 3;way 3 0;walker 0;walker 0");
        due("10 one behind the other", x.go(1), 1);
        due("10 the first turns first", x.walker(0), 2);
        due("10 the second by the next", x.walker(1), 3);
        due("10 vane", x.corner(0, 2), 2);
        due("10 more", x.go(2), 3);
        due("10 back and out", x.walker(0), 1);
        due("10 of a spring nobody leaves", x.walker(1), 3);
        due("10 its vane stays", x.corner(3, 2), 0);
        due("10 0", x.go(0), OUTSIDE);
        due("10 1000", x.go(1000), OUTSIDE);
        due("10 least", x.go(LEAST), OUTSIDE);
        due("10 most", x.go(MOST), OUTSIDE);
        NextWay k = town("town 5;way 0 1;way 0 2;way 0 3;way 0 4;walker 0;second 0;vane 0 1", "walker 0;walker 0");
        k.go(1);
        due("10 second", k.walker(0), 4);
        due("10 second", k.walker(1), 2);
        due("10 second", k.walker(2), 4);
        tell(k, "against 0;vane 0 1");
        k.go(1);
        due("10 against", k.walker(0), 1);
        due("10 against comes round", k.walker(1), 4);
        due("10 against", k.walker(2), 3);
        due("10 no ways", k.go(999), 1000);
        due("10 no ways", k.walker(2), 3);
    }

    private static void goFull() {
        NextWay x = town("way 0 1;way 1 0;walker 0");
        for (int i = 0; i < 100; i++) {
            x.go(999);
        }
        due("10 at 99900", x.count(3), 99900);
        due("10 full", x.go(100), FULL);
        due("10 outside ahead of full", x.go(1000), OUTSIDE);
        due("10 full changes nothing", x.walker(0), 0);
        due("10 up to 99999", x.go(99), 99999);
        due("10 where", x.walker(0), 1);
        due("10 full", x.go(1), FULL);
        due("10 foretold all the same", x.later(0, 1, 0), 0);
        due("10 kept", x.keep(0), 99999);
        tell(x, "nobody");
        due("10 a text begins anew", x.go(1), 1);
    }

    private static void turn() {
        NextWay x = town("town 5;way 0 0;way 0 1;way 0 2;way 1 0;way 1 0;way 1 0",
            "way 2 0;way 2 0;way 2 0;way 3 0;against 1;second 2;spring 3;walker 0");
        int[][] vanes = {{1, 2, 0, 1}, {2, 1, 0, 2}, {2, 1, 0, 2}};
        for (int c = 0; c < 3; c++) {
            for (int i = 0; i < 4; i++) {
                due("11 turn(" + c + ")", x.turn(c), vanes[c][i]);
            }
            due("11 vane then", x.corner(c, 2), vanes[c][3]);
        }
        due("11 nobody moves", x.walker(0), 0);
        due("11 no beat", x.count(3), 0);
        due("11 spring", x.turn(3), NOT);
        due("11 no ways", x.turn(4), NOT);
        due("11 unknown", x.turn(5), UNKNOWN);
        due("11 unknown below", x.turn(-1), UNKNOWN);
        x.go(1);
        due("11 the next one goes on from there", x.walker(0), 2);
    }

    private static void put() {
        NextWay x = town("town 3;way 0 1;way 1 0;way 2 0;walker 0;walker 1");
        due("12 put", x.put(1, 2), 1);
        due("12 there", x.walker(1), 2);
        due("12 the other stays", x.walker(0), 0);
        due("12 again", x.put(1, 2), 2);
        due("12 vanes stay", x.corner(1, 2), 0);
        due("12 no beat", x.count(3), 0);
        due("12 walker", x.put(2, 0), UNKNOWN);
        due("12 walker below", x.put(-1, 0), UNKNOWN);
        due("12 corner", x.put(1, 3), UNKNOWN);
        due("12 corner below", x.put(1, -1), UNKNOWN);
        due("12 nothing changes", x.walker(1), 2);
    }

    private static void keepAndBack() {
        NextWay x = town("town 3;way 0 1;way 0 2;way 1 0;way 2 0;walker 0;walker 1");
        x.go(2);
        String two = state(x);
        due("13 keep", x.keep(0), 2);
        due("14 the other is not kept", x.back(1), NOT);
        x.go(1);
        x.turn(0);
        x.put(1, 2);
        String three = state(x);
        due("13 keep the other", x.keep(1), 3);
        x.go(7);
        due("14 back", x.back(0), 2);
        same("14 as kept", state(x), two);
        due("14 back to the other", x.back(1), 3);
        same("14 as kept", state(x), three);
        due("14 again", x.back(0), 2);
        x.go(1);
        due("14 kept stays", x.back(0), 2);
        same("14 kept stays", state(x), two);
        x.go(5);
        due("13 keep anew", x.keep(0), 7);
        x.go(1);
        due("14 back anew", x.back(0), 7);
        for (int k : new int[] {-1, 2, LEAST, MOST}) {
            due("13 unknown", x.keep(k), UNKNOWN);
            due("14 unknown", x.back(k), UNKNOWN);
        }
        tell(x, "plain 0");
        due("14 nothing since the text", x.back(0), NOT);
        due("14 unknown ahead of not", x.back(2), UNKNOWN);
        due("13 keep behind the text", x.keep(1), 0);
        due("14 back behind the text", x.back(1), 0);
    }

    private static void later() {
        NextWay x = town("town 4;way 0 1;way 0 2;way 0 3;way 1 0;way 2 0;walker 0;walker 0;walker 0");
        String before = state(x);
        due("15 now", x.later(1, 0, 0), 0);
        due("15 first", x.later(0, 1, 0), 2);
        due("15 second", x.later(1, 1, 0), 3);
        due("15 third", x.later(2, 1, 0), 1);
        due("15 vane now", x.later(0, 0, 1), 0);
        due("15 vane", x.later(0, 1, 1), 0);
        due("15 vane of three beats", x.later(0, 3, 1), 2);
        due("15 no ways", x.later(3, 99, 1), NONE);
        due("15 99", x.later(0, 99, 0), 3);
        same("15 nothing changes", state(x), before);
        due("15 what first", x.later(9, 100, 2), OUTSIDE);
        due("15 what below", x.later(0, 0, -1), OUTSIDE);
        due("15 unknown walker", x.later(3, 100, 0), UNKNOWN);
        due("15 unknown corner", x.later(4, 100, 1), UNKNOWN);
        due("15 unknown below", x.later(-1, 0, 1), UNKNOWN);
        due("15 t above", x.later(0, 100, 0), OUTSIDE);
        due("15 t below", x.later(0, -1, 1), OUTSIDE);
        NextWay y = tell(chain(4, 4, 4), "walker 0");
        due("15 83", y.later(0, 83, 0), 2);
        due("15 84", y.later(0, 84, 0), 3);
    }

    private static void when() {
        NextWay x = town("town 4;way 0 1;way 0 2;way 1 0;way 2 0;walker 0;walker 0;walker 3");
        due("16 at once", x.when(0, 0), 0);
        due("16 first", x.when(0, 2), 1);
        due("16 others turn vanes, too", x.when(0, 1), NONE);
        due("16 second", x.when(1, 1), 1);
        due("16 never", x.when(2, 0), NONE);
        due("16 walker", x.when(3, 0), UNKNOWN);
        due("16 walker below", x.when(-1, 0), UNKNOWN);
        due("16 corner", x.when(0, 4), UNKNOWN);
        due("16 corner below", x.when(0, -1), UNKNOWN);
        NextWay most = tell(chain(2, 3, 4, 2, 4, 3), "walker 0");
        String before = state(most);
        due("16 in 999", most.when(0, 6), 999);
        same("16 nothing changes", state(most), before);
        NextWay more = tell(chain(2, 3, 4, 2, 3, 4), "walker 0");
        due("16 in 1000", more.when(0, 6), NONE);
        more.go(1);
        due("16 in 999 from then", more.when(0, 6), 999);
    }

    private static void often() {
        NextWay x = town("town 4;way 0 1;way 0 2;way 1 0;way 2 0;walker 0;walker 0;walker 3");
        due("17 not now", x.often(0, 0, 1), 0);
        due("17 behind two", x.often(0, 0, 2), 1);
        due("17 behind four", x.often(0, 2, 4), 2);
        due("17 behind 999", x.often(0, 0, 999), 499);
        due("17 stays", x.often(2, 3, 999), 999);
        due("17 never", x.often(0, 1, 999), 0);
        due("17 walker", x.often(3, 0, 0), UNKNOWN);
        due("17 corner", x.often(0, 4, 1000), UNKNOWN);
        due("17 corner below", x.often(0, -1, 1), UNKNOWN);
        due("17 0", x.often(0, 0, 0), OUTSIDE);
        due("17 1000", x.often(0, 0, 1000), OUTSIDE);
        due("17 nothing changes", x.count(3) + x.corner(0, 2), 0);
        due("17 the last beat counts", tell(chain(2, 3, 4, 2, 4, 3), "walker 0").often(0, 6, 999), 1);
        due("17 the last but one", tell(chain(2, 3, 4, 2, 4, 3), "walker 0").often(0, 6, 998), 0);
    }

    private static void meet() {
        NextWay x = town("town 5;way 0 1;way 1 2;way 2 0;way 3 2;way 4 3;walker 0;walker 4;walker 0;walker 1");
        due("18 beats", x.meet(0, 1, 0), 2);
        due("18 corner", x.meet(0, 1, 1), 2);
        due("18 the other way about", x.meet(1, 0, 0), 2);
        due("18 at once", x.meet(0, 2, 0), 0);
        due("18 at once, where", x.meet(2, 0, 1), 0);
        due("18 never", x.meet(0, 3, 0), NONE);
        due("18 nowhere", x.meet(0, 3, 1), NONE);
        due("18 himself", x.meet(1, 1, 0), OUTSIDE);
        due("18 what", x.meet(0, 1, 2), OUTSIDE);
        due("18 what below", x.meet(0, 1, -1), OUTSIDE);
        due("18 unknown", x.meet(4, 0, 2), UNKNOWN);
        due("18 unknown other", x.meet(0, 4, 0), UNKNOWN);
        due("18 unknown himself", x.meet(4, 4, 0), UNKNOWN);
        due("18 unknown below", x.meet(0, -1, 0), UNKNOWN);
        due("18 nothing changes", x.walker(1), 4);
        NextWay most = tell(chain(2, 3, 4, 2, 4, 3), "walker 0;walker 6");
        due("18 in 999", most.meet(0, 1, 0), 999);
        due("18 in 999, where", most.meet(0, 1, 1), 6);
        due("18 in 1000", tell(chain(2, 3, 4, 2, 3, 4), "walker 0;walker 6").meet(1, 0, 0), NONE);
    }

    private static void round() {
        NextWay x = town("town 5;way 0 1;way 1 2;way 2 1;way 3 3;way 3 3;spring 4;way 4 0;walker 1");
        due("19 ahead", x.round(0, 0), 1);
        due("19 later", x.round(0, 1), 2);
        due("19 on the round", x.round(1, 0), 0);
        due("19 vanes count", x.round(3, 1), 2);
        due("19 vanes count", x.round(3, 0), 0);
        due("19 a spring", x.round(4, 0), 0);
        due("19 a spring", x.round(4, 1), 1);
        due("19 unknown", x.round(5, 2), UNKNOWN);
        due("19 unknown below", x.round(-1, 0), UNKNOWN);
        due("19 outside", x.round(0, 2), OUTSIDE);
        due("19 outside below", x.round(0, -1), OUTSIDE);
        due("19 nothing changes", x.corner(0, 2) + x.count(3), 0);
        NextWay most = tell(chain(3, 4, 1, 3, 3, 3, 2), "way 7 0");
        due("19 999 later", most.round(0, 1), 999);
        due("19 0 ahead", most.round(0, 0), 0);
        NextWay more = tell(chain(2, 3, 4, 2, 4, 3), "way 6 0");
        due("19 1000 later", more.round(0, 1), NONE);
        due("19 1000 later", more.round(0, 0), NONE);
    }

    private static void roundWithBeatsAhead() {
        NextWay x = town("town 8;way 7 0;way 7 7");
        int[] ways = {2, 3, 4, 3, 2, 4};
        for (int i = 0; i < 6; i++) {
            tell(x, "way " + i + " " + (i + 1));
            for (int k = 1; k < ways[i]; k++) {
                tell(x, "way " + i + " 0");
            }
        }
        tell(x, "way 6 0");
        due("19 997 and 2 ahead", x.round(7, 0), 2);
        due("19 997 and 2 ahead", x.round(7, 1), 997);
        tell(x, "way 7 7");
        due("19 997 and 3 ahead", x.round(7, 0), NONE);
        due("19 997 and 3 ahead", x.round(7, 1), NONE);
        x.turn(7);
        due("19 by vanes now", x.round(7, 0), 2);
    }

    private static void quick() {
        NextWay x = town("town 6;way 0 1;way 0 2;way 0 3;way 1 0;way 1 4;way 2 4;way 3 4",
            "spring 4;way 4 0;way 4 5;vane 0 2;vane 4 1;walker 0");
        due("20 beats", x.quick(0, 4, NONE), 2);
        int[] row = {0, 0, 0, 0, 0, NONE};
        for (int i = 0; i < 6; i++) {
            due("20 row of " + i, x.quick(0, 4, i), row[i]);
        }
        due("20 first row by way 1", x.quick(0, 1, 0), 2);
        due("20 a second way", x.quick(1, 4, 1), 0);
        due("20 against", tell(x, "against 1").quick(1, 4, 1), 0);
        due("20 back by way 0", x.quick(1, 0, 1), 1);
        due("20 a spring is not left", x.quick(0, 5, NONE), NONE);
        due("20 no such row", x.quick(0, 5, 0), NONE);
        due("20 not to the first", x.quick(2, 0, NONE), NONE);
        due("20 there", x.quick(3, 3, NONE), 0);
        due("20 there, row", x.quick(3, 3, 0), 0);
        due("20 there, no ways", x.quick(3, 3, 5), NONE);
        due("20 from", x.quick(6, 0, -2), UNKNOWN);
        due("20 to", x.quick(0, 6, -1), UNKNOWN);
        due("20 to below", x.quick(0, -1, -1), UNKNOWN);
        due("20 i", x.quick(0, 4, 6), UNKNOWN);
        due("20 i below", x.quick(0, 4, -2), OUTSIDE);
        due("20 nothing changes", x.corner(0, 2), 2);
        NextWay y = chain(4, 4, 4, 4, 4, 4, 4);
        due("20 far", y.quick(0, 7, NONE), 7);
        due("20 far, row", y.quick(0, 7, 6), 3);
        due("20 the rest less first", y.quick(0, 3, 6), 0);
        NextWay s = town("town 3;way 0 0;way 0 1;way 0 2;way 0 0;second 0");
        due("20 second", s.quick(0, 1, 0), 3);
        due("20 second", s.quick(0, 2, 0), 0);
    }

    /** Of two rows that are as quick, that with less at the lower CORNER comes first, whatever the others have. */
    private static void quickByCorners() {
        NextWay x = town("town 4;way 3 1;way 3 0;way 0 0;way 0 0;way 0 2;way 1 1;way 1 2");
        due("20 beats", x.quick(3, 2, NONE), 2);
        due("20 by corner 1, so that 0 is less", x.quick(3, 2, 0), 0);
        due("20 by corner 1", x.quick(3, 2, 1), 0);
        due("20 by corner 1", x.quick(3, 2, 3), 1);
    }

    private static void slow() {
        due("21 99", chain(1, 3, 1, 4, 3).slow(0, 5), 99);
        due("21 100", chain(4, 1, 4, 4).slow(0, 4), NONE);
        NextWay x = town("town 5;way 0 1;way 0 2;way 1 2;way 2 3;way 2 0;way 4 4;way 4 4;way 4 3;walker 0");
        due("21 any row", x.slow(0, 2), 2);
        due("21 all ways round", x.slow(0, 3), 5);
        due("21 there", x.slow(4, 4), 0);
        due("21 never", x.slow(3, 0), NONE);
        due("21 some row never", x.slow(0, 1), NONE);
        due("21 himself again", x.slow(4, 3), 3);
        tell(x, "second 4");
        due("21 second of three", x.slow(4, 3), 3);
        tell(x, "way 4 4");
        due("21 second of four", x.slow(4, 3), NONE);
        due("21 from", x.slow(5, 0), UNKNOWN);
        due("21 from below", x.slow(-1, 0), UNKNOWN);
        due("21 to", x.slow(0, 5), UNKNOWN);
        due("21 to below", x.slow(0, -1), UNKNOWN);
        due("21 by vanes as one likes", chain(4, 4).slow(0, 2), 20);
        NextWay y = chain(4, 4);
        y.turn(1);
        due("21 not by vanes now", y.slow(0, 2), 20);
    }

    private static void pennies() {
        NextWay x = town("town 5;way 0 1;way 0 1;way 0 1;way 0 2;way 2 3;way 2 3;way 2 4;way 1 0;walker 0");
        due("22 none", x.pennies(0, 0, 0, NONE), 0);
        due("22 now", x.pennies(0, 1, 0, NONE), NONE);
        due("22 two", x.pennies(0, 2, 1, NONE), 2);
        due("22 two", x.pennies(0, 2, 1, 0), 2);
        due("22 two and one", x.pennies(0, 4, 2, NONE), 3);
        int[] row = {2, 0, 1, 0, 0};
        for (int i = 0; i < 5; i++) {
            due("22 turns of " + i, x.pennies(0, 4, 2, i), row[i]);
        }
        due("22 in time", x.pennies(0, 4, 5, NONE), 2);
        due("22 in time, turns", x.pennies(0, 4, 5, 2), 1);
        due("22 with more time", x.pennies(0, 4, 6, NONE), 1);
        due("22 no row", x.pennies(0, 4, 1, NONE), NONE);
        due("22 no row", x.pennies(0, 4, 1, 2), NONE);
        due("22 walker", x.pennies(1, 0, 0, -2), UNKNOWN);
        due("22 walker below", x.pennies(-1, 0, 0, 0), UNKNOWN);
        due("22 corner", x.pennies(0, 5, 0, NONE), UNKNOWN);
        due("22 i", x.pennies(0, 0, 100, 5), UNKNOWN);
        due("22 beats", x.pennies(0, 0, 100, 0), OUTSIDE);
        due("22 beats below", x.pennies(0, 0, -1, 0), OUTSIDE);
        due("22 i below", x.pennies(0, 0, 0, -2), OUTSIDE);
        due("22 nothing changes", x.corner(0, 2) + x.corner(2, 2), 0);
        NextWay most = tell(chain(1, 3, 1, 4, 3), "walker 0");
        due("22 in 99", most.pennies(0, 5, 99, NONE), 0);
        due("22 in 98", most.pennies(0, 5, 98, NONE), 1);
        due("22 the first row of one penny", most.pennies(0, 5, 98, 4), 1);
        due("22 the first row of one penny", most.pennies(0, 5, 98, 1), 0);
    }

    private static void penniesOfFour() {
        NextWay x = town("town 4;way 0 3;way 0 1;way 0 1;way 1 2;way 1 0;way 1 0;way 1 0;walker 0");
        due("22 three of one", x.pennies(0, 2, 2, 1), 3);
        tell(x, "spring 3;way 3 2;way 2 0;way 2 0;way 2 3");
        due("22 one, by the way back", x.pennies(0, 3, 3, 0), 1);
        due("22 of a spring none", x.pennies(0, 3, 3, 3), 0);
        tell(x, "town 4;way 0 1;way 0 0;way 0 0;way 1 2;way 1 0;way 1 0;way 2 3;way 2 1;walker 0");
        due("22 five are too many", x.pennies(0, 3, 3, NONE), NONE);
        tell(x, "vane 2 1");
        due("22 four", x.pennies(0, 3, 3, NONE), 4);
        due("22 four, turns", x.pennies(0, 3, 3, 0), 2);
        due("22 four, turns", x.pennies(0, 3, 3, 1), 2);
        tell(x, "town 2;way 0 1;way 0 0;way 0 0;way 0 0;vane 0 3;walker 0");
        due("22 plain", x.pennies(0, 1, 1, NONE), 0);
        due("22 against", tell(x, "against 0").pennies(0, 1, 1, NONE), 2);
        due("22 second", tell(x, "second 0").pennies(0, 1, 1, NONE), NONE);
        due("22 second", tell(x, "vane 0 0").pennies(0, 1, 1, 0), 1);
        NextWay two = town("town 3;way 0 1;way 0 0;walker 0;walker 0");
        due("22 the others go, too", two.pennies(1, 1, 1, NONE), 0);
        due("22 the first does not", two.pennies(0, 1, 1, 0), 1);
    }

    private static void shares() {
        NextWay x = town("town 5;way 0 1;way 0 2;way 0 3;way 1 1;spring 2;way 2 0;way 3 4;walker 0");
        due("23 one", x.shares(0, 1, 2), 1);
        due("23 two", x.shares(0, 2, 4), 1);
        due("23 not on the way", x.shares(0, 99, 3), 0);
        due("23 nowhere", x.shares(0, 99, 1), 0);
        due("23 of 99", x.shares(0, 99, 2), 33);
        due("23 of 98", x.shares(0, 98, 4), 33);
        due("23 at once", x.shares(4, 7, 4), 7);
        due("23 at another", x.shares(4, 7, 2), 0);
        due("23 from", x.shares(5, 0, 0), UNKNOWN);
        due("23 from below", x.shares(-1, 1, 0), UNKNOWN);
        due("23 at", x.shares(0, 1, 5), UNKNOWN);
        due("23 at below", x.shares(0, 100, -1), UNKNOWN);
        due("23 0", x.shares(0, 0, 0), OUTSIDE);
        due("23 100", x.shares(0, 100, 0), OUTSIDE);
        due("23 nothing changes", x.corner(0, 2), 0);
        x.turn(0);
        due("23 by vanes now", x.shares(0, 1, 4), 1);
        NextWay last = town("town 8;way 7 4;way 7 4;way 7 4;way 7 5;vane 7 2");
        due("23 by the last corner's vane", last.shares(7, 1, 5), 1);
        due("23 in 999", chain(2, 3, 4, 2, 4, 3).shares(0, 3, 6), 3);
        due("23 not in 1000, vanes as he left them", chain(2, 3, 4, 2, 3, 4).shares(0, 99, 6), 49);
    }

    private static void settled() {
        NextWay x = new NextWay();
        due("24 nobody", x.settled(0), 0);
        tell(x, "town 5;way 0 1;way 0 2;way 1 3;way 2 4;way 3 0;way 4 0;walker 0;walker 0;walker 1");
        due("24 rising", x.settled(0), 1 | 4 | 2);
        due("24 falling", x.settled(1), 2 | 1 | 4);
        due("24 nothing changes", x.corner(0, 2) + x.count(3), 0);
        x.turn(0);
        due("24 rising, order matters not", x.settled(0), 1 | 2 | 8);
        due("24 falling", x.settled(1), 2 | 1 | 8);
        due("24 outside", x.settled(2), OUTSIDE);
        due("24 outside below", x.settled(-1), OUTSIDE);
        tell(x, "town 3;walker 2;walker 2");
        due("24 not settled", x.settled(0), NONE);
        tell(x, "nobody;walker 2;walker 1");
        due("24 at their own", x.settled(1), 6);
        tell(x, "town 6;way 0 1;way 1 2;way 1 3;way 4 1;walker 0;walker 0;walker 1");
        due("24 rising through", x.settled(0), 1 | 2 | 8);
        tell(x, "town 2;way 0 0;way 0 1;walker 0;walker 0;walker 0");
        due("24 three in two", x.settled(0), NONE);
        tell(x, "nobody;walker 0;walker 0");
        due("24 himself again and on", x.settled(0), 3);
    }

    /** The CORNERS are the same in either order, though it is others who stop there. */
    private static void settledInEitherOrder() {
        NextWay x = town("town 4;way 0 1;spring 1;way 2 1;way 2 3;walker 1;walker 2;walker 1");
        due("24 rising: the third cannot leave", x.settled(0), NONE);
        due("24 falling: the first cannot leave", x.settled(1), NONE);
        tell(x, "town 4;way 0 1;way 0 2;way 1 0;way 1 3;walker 0;walker 1;walker 1;walker 0");
        due("24 rising", x.settled(0), 15);
        due("24 falling", x.settled(1), 15);
        tell(x, "town 4;way 0 1;way 1 2;way 2 2;way 2 3;vane 2 1;walker 0;walker 0;walker 1");
        due("24 rising", x.settled(0), 7);
        due("24 falling", x.settled(1), 7);
    }

    private static void past() {
        NextWay x = town("town 3;way 0 0;way 0 1;way 1 2;way 2 0;way 2 1");
        due("25 one back", x.past(0, 1, 0), 2);
        due("25 one back, where", x.past(0, 1, 1), 1 | 4);
        due("25 two back", x.past(0, 2, 0), 2);
        due("25 two back, where", x.past(0, 2, 1), 2 | 4);
        due("25 nobody came", x.past(1, 1, 0), 0);
        due("25 nobody came, from nowhere", x.past(1, 1, 1), 0);
        due("25 no such vane", x.past(2, 2, 0), 0);
        due("25 unknown", x.past(3, 0, 2), UNKNOWN);
        due("25 unknown below", x.past(-1, 1, 0), UNKNOWN);
        due("25 0", x.past(0, 0, 0), OUTSIDE);
        due("25 7", x.past(0, 7, 0), OUTSIDE);
        due("25 what", x.past(0, 1, 2), OUTSIDE);
        due("25 what below", x.past(0, 1, -1), OUTSIDE);
        same("25 nothing changes", state(x), "3 5 0 0 0 0 |0200|0100|0200");
        tell(x, "town 2;way 0 1;way 1 0");
        due("25 six back", x.past(0, 6, 0), 1);
        due("25 six back, where", x.past(0, 6, 1), 1);
        due("25 five back, where", x.past(0, 5, 1), 2);
        tell(x, "town 2;way 0 0;way 0 0;way 1 0;way 1 0");
        due("25 rows", x.past(0, 6, 0), 2);
        due("25 rows, where", x.past(0, 6, 1), 3);
        tell(x, "spring 1");
        due("25 of a spring nobody came", x.past(0, 6, 0), 1);
        tell(x, "town 2;way 0 1;spring 1");
        due("25 into a spring", x.past(1, 1, 1), 1);
        due("25 standing is not coming", x.past(1, 2, 0), 0);
    }

    /** CORNER 0 has WAYS to itself but for one; how it was turned tells how often he can have come by it. */
    private static void pastByKinds() {
        NextWay x = town("town 2;way 0 1;way 0 0;way 0 0;way 0 0;vane 0 3");
        due("25 plain three back", x.past(0, 3, 0), 1);
        due("25 plain four back", x.past(0, 4, 0), 0);
        tell(x, "against 0");
        due("25 against one back", x.past(0, 1, 0), 1);
        due("25 against two back", x.past(0, 2, 0), 0);
        tell(x, "second 0");
        due("25 second six back", x.past(0, 6, 0), 1);
        tell(x, "vane 0 2");
        due("25 second one back", x.past(0, 1, 0), 1);
        due("25 second two back", x.past(0, 2, 0), 0);
        x.turn(0);
        due("25 by vanes now", x.past(1, 2, 1), 1);
    }

    private static void count() {
        NextWay x = town("town 6;way 0 1;way 0 2;way 1 2;spring 1;way 5 0;walker 3;walker 0;walker 0");
        x.go(5);
        write(x, "abc");
        int[] due = {6, 4, 3, 5, 2 | 4 | 8 | 16, 3};
        for (int what = 0; what < 6; what++) {
            due("26 count(" + what + ")", x.count(what), due[what]);
        }
        due("26 above", x.count(6), OUTSIDE);
        due("26 below", x.count(-1), OUTSIDE);
        due("26 most", x.count(MOST), OUTSIDE);
        due("26 least", x.count(LEAST), OUTSIDE);
    }

    private static void constants() {
        due("NONE", NextWay.NONE, -1);
        due("UNKNOWN", NextWay.UNKNOWN, -2);
        due("OUTSIDE", NextWay.OUTSIDE, -3);
        due("NOT", NextWay.NOT, -4);
        due("FULL", NextWay.FULL, -5);
    }

    public static void main(String[] args) {
        constants();
        aNewObject();
        write();
        erase();
        faultOfWords();
        faultOfNumbers();
        faultBehindWhatIsTold();
        townIsTold();
        townBeginsAnew();
        corner();
        way();
        as();
        walker();
        go();
        goFull();
        turn();
        put();
        keepAndBack();
        later();
        when();
        often();
        meet();
        round();
        roundWithBeatsAhead();
        quick();
        quickByCorners();
        slow();
        pennies();
        penniesOfFour();
        shares();
        settled();
        settledInEitherOrder();
        past();
        pastByKinds();
        count();
        finish("all promises are kept");
    }
}
