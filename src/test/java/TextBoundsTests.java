/**
 * The document's sentences on what is told (Terms 1, promises 1 to 5) that name a bound: each has a test of its own, with
 * the last that is within and the first that is without.
 */
public final class TextBoundsTests extends TownTest {
    private static final String FIVE_WALKERS = repeat("walker 0", 5, ";");
    private static final String FOUR_WAYS = repeat("way 0 1", 4, ";");

    /** 'CORNERS are 0 .. n less 1 (n 2 .. 8; 2 at first)'. */
    private static void corners() {
        NextWay first = new NextWay();
        due("2 at first", first.count(0), 2);
        due("corner 1 at first", first.corner(1, 0), 0);
        due("corner 2 at first", first.corner(2, 0), UNKNOWN);
        for (int n = 0; n <= 9; n++) {
            due("town " + n, fault("town " + n), n >= 2 && n <= 8 ? NONE : 5);
        }
        for (int n = 2; n <= 8; n++) {
            NextWay x = town("town " + n);
            due("n " + n, x.count(0), n);
            due("corner n less 1 of " + n, x.corner(n - 1, 1), 0);
            due("corner n of " + n, x.corner(n, 1), UNKNOWN);
            due("corner below 0 of " + n, x.corner(-1, 1), UNKNOWN);
        }
    }

    /** Each LINE's CORNER is bounded by n less 1, whatever n there is behind the LINES ahead. */
    private static void cornersOfLines() {
        String[] lines = {"plain ", "against ", "second ", "spring ", "walker ", "way ", "vane ", "way 0 "};
        for (int n = 2; n <= 8; n++) {
            NextWay x = town("town " + n, "way 0 0;way " + (n - 1) + " 0");
            for (String line : lines) {
                String rest = line.equals("way ") || line.equals("vane ") ? " 0" : "";
                due(line + (n - 1) + " of " + n, fault(x, line + (n - 1) + rest), NONE);
                due(line + n + " of " + n, fault(x, line + n + rest), line.length());
                due(line + "9 of " + n, fault(x, line + 9 + rest), line.length());
            }
        }
    }

    /** 'each of a KIND: 0 PLAIN (as at first), 1 AGAINST, 2 SECOND, 3 SPRING'. */
    private static void kinds() {
        NextWay x = town("town 8");
        String[] words = {"plain", "against", "second", "spring"};
        due("plain at first, corner 0", x.corner(0, 0), 0);
        due("plain at first, corner 7", x.corner(7, 0), 0);
        for (int was = 0; was < 4; was++) {
            for (int kind = 0; kind < 4; kind++) {
                tell(x, words[was] + " 7;" + words[kind] + " 7");
                due(words[kind] + " behind " + words[was], x.corner(7, 0), kind);
            }
        }
        due("another stays as it was", x.corner(6, 0), 0);
    }

    /** 'WAYS of a CORNER are 0, 1 .. as they come, 4 at most (none at first), each to a CORNER (that one itself, too)'. */
    private static void ways() {
        NextWay x = town("town 8");
        int[] ends = {7, 0, 7, 3};
        for (int v = 0; v < 4; v++) {
            due("ways ahead of " + v, x.corner(7, 1), v);
            due("no way " + v + " yet", x.way(7, v), UNKNOWN);
            tell(x, "way 7 " + ends[v]);
            due("way " + v, x.way(7, v), ends[v]);
        }
        due("four ways", x.corner(7, 1), 4);
        due("a fifth", fault(x, "way 7 0"), 4);
        due("a fifth is not told", x.town(), NOT);
        due("still four", x.corner(7, 1), 4);
        due("way 4", x.way(7, 4), UNKNOWN);
        due("below way 0", x.way(7, -1), UNKNOWN);
        due("four of another", fault(x, repeat("way 6 6", 4, ";")), NONE);
        x.town();
        due("of another", x.way(6, 3), 6);
        due("32 ways in all", tell(x, repeat("way 0 0", 4, ";") + ";" + repeat("way 1 0", 4, ";"),
            repeat("way 2 0", 4, ";") + ";" + repeat("way 3 0", 4, ";"),
            repeat("way 4 0", 4, ";") + ";" + repeat("way 5 0", 4, ";")).count(1), 32);
    }

    /** 'a fifth of A is a FAULT at A', ahead of what is wrong with B. */
    private static void fifthWay() {
        due("the fourth", fault(FOUR_WAYS), NONE);
        due("the fifth", fault(FOUR_WAYS + ";way 0 1"), 36);
        due("the fifth, to nowhere", fault(FOUR_WAYS + ";way 0 9"), 36);
        due("the fifth, cut short", fault(FOUR_WAYS + ";way 0"), 36);
        due("the fourth, to nowhere", fault(repeat("way 0 1", 3, ";") + ";way 0 9"), 30);
        due("the fifth of another", fault(FOUR_WAYS + ";way 1 0"), NONE);
        due("behind town the first again", fault(FOUR_WAYS + ";town 2;way 0 1"), NONE);
        due("three told ahead, the fourth", fault(town(repeat("way 1 1", 3, ";")), "way 1 1"), NONE);
        due("three told ahead, the fifth", fault(town(repeat("way 1 1", 3, ";")), "way 1 1;way 1 1"), 12);
    }

    /** 'Its VANE is one of its WAYS (0 at first)'; 'vane: V a WAY of C'. */
    private static void vanes() {
        due("no ways, no vane", new NextWay().corner(0, 2), NONE);
        due("a vane without ways", fault("vane 0 0"), 7);
        NextWay x = town("town 8");
        for (int w = 1; w <= 4; w++) {
            tell(x, "way 7 0");
            due("0 at first of " + w, x.corner(7, 2), 0);
            due("the last way of " + w, fault(x, "vane 7 " + (w - 1)), NONE);
            due("no way of " + w, fault(x, "vane 7 " + w), 7);
            due("9 of " + w, fault(x, "vane 7 9"), 7);
            x.erase();
        }
        due("the last way told", tell(x, "vane 7 3").corner(7, 2), 3);
        due("told again", tell(x, "vane 7 2;vane 7 1").corner(7, 2), 1);
        due("one more way leaves it", tell(town("way 0 0;way 0 1;vane 0 1"), "way 0 0").corner(0, 2), 1);
        due("of ways of another", fault(x, "way 6 0;vane 6 1"), 15);
    }

    /** 'WALKERS are 0, 1 .. as they come, 5 at most (none at first)'. */
    private static void walkers() {
        NextWay x = town("town 8");
        int[] at = {7, 0, 7, 3, 1};
        for (int w = 0; w < 5; w++) {
            due("walkers ahead of " + w, x.count(2), w);
            due("no walker " + w + " yet", x.walker(w), UNKNOWN);
            due("room for " + w, fault(x, "walker " + at[w]), NONE);
            x.town();
            due("walker " + w, x.walker(w), at[w]);
        }
        due("five", x.count(2), 5);
        due("a sixth", fault(x, "walker 0"), 0);
        due("a sixth is not told", x.town(), NOT);
        due("still five", x.count(2), 5);
        due("no walker 5", x.walker(5), UNKNOWN);
    }

    /** 'walker: a sixth cannot stand there (at its word)', ahead of what is wrong with its CORNER. */
    private static void sixthWalker() {
        due("the fifth", fault(FIVE_WALKERS), NONE);
        due("the fifth at no corner", fault(repeat("walker 0", 4, ";") + ";walker 2"), 43);
        due("the sixth", fault(FIVE_WALKERS + ";walker 0"), 45);
        due("the sixth at no corner", fault(FIVE_WALKERS + ";walker 2"), 45);
        due("the sixth cut short", fault(FIVE_WALKERS + "; walker"), 46);
        due("behind nobody", fault(FIVE_WALKERS + ";nobody;walker 0"), NONE);
        due("behind nobody five", fault(repeat("walker 0", 3, ";") + ";nobody;" + FIVE_WALKERS), NONE);
        due("behind nobody a sixth", fault(repeat("walker 0", 3, ";") + ";nobody;" + FIVE_WALKERS + ";walker 0"), 79);
        due("behind town", fault(FIVE_WALKERS + ";town 2;" + FIVE_WALKERS), NONE);
        due("behind town a sixth", fault(FIVE_WALKERS + ";town 2;" + FIVE_WALKERS + ";walker 0"), 97);
    }

    /** 'nobody: no WALKERS'; of none also. */
    private static void nobody() {
        due("nobody of none", town("nobody").count(2), 0);
        NextWay x = town(FIVE_WALKERS);
        due("nobody of five", tell(x, "nobody").count(2), 0);
        due("walker 0", x.walker(0), UNKNOWN);
        due("bits", x.corner(0, 3), 0);
        due("from 0 again", tell(x, "walker 1").walker(0), 1);
        due("one", x.count(2), 1);
        due("of the bits one", x.corner(0, 3), 0);
    }

    /** 'THE TEXT is a row of bytes, 200 at most'; write: 'n (1 .. 8) bytes more .. FULL'. */
    private static void bytesOfTheText() {
        for (int n = 1; n <= 8; n++) {
            NextWay x = new NextWay();
            write(x, repeat(" ", 200 - n, ""));
            due("up to 200 by " + n, x.write(0x2020202020202020L, n), 200);
            due("one above 200", x.write(32, 1), FULL);
            due("eight above 200", x.write(32, 8), FULL);
            due("200 stay", x.count(5), 200);
            NextWay y = new NextWay();
            write(y, "nobody" + repeat(" ", 195 - n, ""));
            due("up to 201 by " + n, y.write(0x7878787878787878L, n), FULL);
            due("none of them is written", y.count(5), 201 - n);
            due("the text is as it was", y.fault(), NONE);
            if (n > 1) {
                due("one less", y.write(0x2020202020202020L, n - 1), 200);
            }
            due("the text is told", y.town(), 1);
            due("and empty", y.count(5), 0);
        }
        NextWay z = new NextWay();
        write(z, repeat(" ", 200, ""));
        due("200 erased", z.erase(), 200);
        due("room again", z.write(32, 8), 8);
    }

    /** write: 'n (1 .. 8)', 'byte i being bytes >> 8 i & 255'. */
    private static void bytesOfOneWrite() {
        NextWay x = new NextWay();
        for (int n : new int[] {0, 9, -1, LEAST, MOST}) {
            due("n " + n, x.write(32, n), OUTSIDE);
            due("n " + n + " writes none", x.count(5), 0);
        }
        due("n 1", x.write('n', 1), 1);
        due("n 8", x.write('o' | 'b' << 8 | 'o' << 16 | 'd' << 24 | (long) 'y' << 32 | 0x20202000000000L | 32L << 56, 8), 9);
        due("the bytes in their order", x.fault(), NONE);
        for (int i = 0; i < 8; i++) {
            for (int odd : new int[] {0, 1, 127, 128, 255}) {
                NextWay y = new NextWay();
                y.write(0x2020202020202020L & ~(255L << 8 * i) | (long) odd << 8 * i, 8);
                due("byte " + i + " of " + odd, y.fault(), i);
                if (i > 0) {
                    y.erase();
                    y.write(0x2020202020202020L & ~(255L << 8 * i) | (long) odd << 8 * i, i);
                    due("byte " + i + " is above the last", y.fault(), i);
                    due("so many", y.count(5), i);
                }
            }
        }
    }

    /** 'LINES with ; (59) between, 12 at most'. */
    private static void lines() {
        for (int n = 1; n <= 12; n++) {
            NextWay x = new NextWay();
            due(n + " lines", fault(x, repeat("nobody", n, ";")), NONE);
            due(n + " lines are told", x.town(), n);
        }
        NextWay x = new NextWay();
        due("13 lines", fault(x, repeat("nobody", 13, ";")), 83);
        due("13 lines are not told", x.town(), NOT);
        due("13 lines stay", x.erase(), 90);
        due("12 lines and ;", fault(repeat("nobody", 12, ";") + ";"), 83);
        due("12 lines, blanks and ;", fault(repeat("nobody", 12, ";") + "  ; walker 0"), 85);
        due("12 lines and a word", fault(repeat("nobody", 12, ";") + " nobody"), 84);
        due("12 lines and blanks", fault(repeat("nobody", 12, ";") + "  "), NONE);
        due("a fault in line 12", fault(repeat("nobody", 11, ";") + ";town 9"), 82);
        due("line 12 cut short", fault(repeat("nobody", 11, ";") + ";"), 77);
        due("200 bytes of 12 lines", fault(repeat("  against  0   ", 12, ";") + repeat(" ", 9, "")), NONE);
    }

    /** A ; stands between LINES alone: not ahead of the first, not behind the last, not twice. */
    private static void semicolons() {
        due(";", fault(";"), 0);
        due("; ahead", fault(" ;nobody"), 1);
        due("; behind", fault("nobody;"), 7);
        due("; behind, blanks", fault("nobody ;  "), 10);
        due(";;", fault("nobody;;nobody"), 7);
        due("; ;", fault("nobody; ;nobody"), 8);
        due("none between", fault("nobody nobody"), 7);
        due("none between, town", fault("town 2 town 2"), 7);
        due("58", fault("nobody:nobody"), 6);
        due("59", fault("nobody;nobody"), NONE);
        due("60", fault("nobody<nobody"), 6);
    }

    /** 'town: N CORNERS, all else as at first': in the same text, and behind one. */
    private static void townAsAtFirst() {
        String all = "against 0;spring 1;way 0 1;way 0 0;way 1 1;vane 0 1;walker 0;walker 1";
        String first = "2 0 0 0 3 0 |00-10|00-10";
        same("in the same text", state(town(all + ";town 2")), first);
        same("behind one", state(tell(town(all), "town 2")), first);
        same("twice", state(town("town 8;town 2")), first);
        NextWay x = tell(town(all), "town 2;way 0 1;way 0 0;way 1 1;walker 1");
        same("kinds, vanes, walkers", state(x), "2 3 1 0 0 0 |0200|0101");
        due("the ways are new ones", x.way(0, 0), 1);
        due("no way of before", x.way(1, 1), UNKNOWN);
        NextWay y = town("town 8;spring 7;way 7 6;way 7 5;vane 7 1;walker 7");
        tell(y, "town 2", "town 8");
        same("a larger one again", state(y), "8 0 0 0 255 0 " + repeat("|00-10", 8, ""));
        tell(y, "way 7 0;way 7 1");
        due("its vane is 0", y.corner(7, 2), 0);
        NextWay z = town("way 0 1;way 1 0;walker 0");
        z.go(5);
        z.keep(0);
        due("BEAT 0", tell(z, "town 2").count(3), 0);
        due("nothing is kept", z.back(0), NOT);
    }

    /** 'CORNERS, WAYS such as there are behind the LINES ahead'; 'LINES are done in their order'. */
    private static void behindTheLinesAhead() {
        due("a corner ahead of its town", fault("plain 2;town 3"), 6);
        due("a corner behind its town", fault("town 3;plain 2"), NONE);
        due("behind a smaller town", fault("town 3;town 2;plain 2"), 20);
        due("a larger town behind", fault("town 2;town 3;plain 2"), NONE);
        due("a vane ahead of its way", fault("vane 0 0;way 0 1"), 7);
        due("a vane behind its way", fault("way 0 1;vane 0 0"), NONE);
        due("a vane ahead of its second way", fault("way 0 1;vane 0 1;way 0 1"), 15);
        due("a vane behind its second way", fault("way 0 1;way 0 1;vane 0 1"), NONE);
        due("a vane behind town", fault("way 0 1;town 2;vane 0 0"), 22);
        due("nobody last", town("walker 0;nobody").count(2), 0);
        due("nobody first", town("nobody;walker 0").count(2), 1);
        NextWay x = town("way 0 1;way 0 0;walker 1;walker 0");
        due("way 0 first", x.way(0, 0), 1);
        due("way 1 second", x.way(0, 1), 0);
        due("walker 0 first", x.walker(0), 1);
        due("walker 1 second", x.walker(1), 0);
        due("corners of before hold", fault(town("town 3"), "plain 2"), NONE);
        due("no fault tells nothing", new NextWay().corner(2, 0), UNKNOWN);
        NextWay y = new NextWay();
        fault(y, "town 3;plain 2");
        due("fault alone tells nothing", y.count(0), 2);
        due("so the next reading is the same", y.fault(), NONE);
    }

    /** 'small letters a .. z': the bytes just without them are TOKENS by themselves. */
    private static void letters() {
        due("a", fault("nobodya"), 0);
        due("z", fault("nobodyz"), 0);
        due("ahead of a", fault("nobody`"), 6);
        due("behind z", fault("nobody{"), 6);
        due("capital", fault("nobodY"), 0);
        due("A", fault("nobodyA"), 6);
        due("Z", fault("nobodyZ"), 6);
        due("a sign first", fault("`nobody"), 0);
        due("a sign first, behind a ;", fault("nobody;{nobody"), 7);
        for (String word : new String[] {"town", "plain", "against", "second", "spring", "way", "vane", "walker", "nobody"}) {
            due("a letter less than " + word, fault(word.substring(1) + " 0 0"), 0);
            due("a last letter less than " + word, fault(word.substring(0, word.length() - 1) + " 0 0"), 0);
            due("a letter more than " + word, fault(word + "s 0 0"), 0);
            due("another last letter than " + word, fault(word.substring(0, word.length() - 1) + "q 0 0"), 0);
            due("another first letter than " + word, fault("q" + word.substring(1) + " 0 0"), 0);
        }
    }

    /** 'numbers of 1 digit'; 'a number out of its bounds, of more digits, also'. */
    private static void digits() {
        due("1 digit", fault("walker 0"), NONE);
        due("2 digits", fault("walker 00"), 7);
        due("2 digits, the second 9", fault("walker 09"), 7);
        due("2 digits, the first 1", fault("walker 10"), 7);
        due("many digits", fault("walker " + repeat("0", 193, "")), 7);
        due("two numbers", fault("walker 0 0"), 9);
        due("ahead of 0", fault("walker 0/"), 8);
        due("behind 9", fault("walker 0:"), 8);
        due("no number: ahead of 0", fault("walker /"), 7);
        due("no number: behind 9", fault("walker :"), 7);
        due("a sign", fault("walker -1"), 7);
        due("plus", fault("walker +1"), 7);
        due("town of 2 digits", fault("town 02"), 5);
        due("way from 2 digits", fault("way 00 1"), 4);
        due("way to 2 digits", fault("way 0 01"), 6);
        due("vane of 2 digits", fault("way 0 1;vane 00 0"), 13);
        due("vane 2 digits", fault("way 0 1;vane 0 00"), 15);
        for (String word : new String[] {"plain", "against", "second", "spring"}) {
            due(word + " of 1 digit", fault(word + " 1"), NONE);
            due(word + " of 2 digits", fault(word + " 01"), word.length() + 1);
        }
    }

    /** 'blanks (32) between': any number of them, none where TOKENS part without; 31, 33 and a tab are no blanks. */
    private static void blanks() {
        due("none", fault("way0 1;vane0 0;walker1;town8"), NONE);
        due("many", fault("  way   0   1  ;  vane  0  0  "), NONE);
        due("none between two numbers", fault("way 01"), 4);
        due("inside a word", fault("no body"), 0);
        due("inside a word, second part", fault("nobody no body"), 7);
        due("31", fault("town" + (char) 31 + "2"), 4);
        due("33", fault("town!2"), 4);
        due("tab", fault("town\t2"), 4);
        due("0", fault("town" + (char) 0 + "2"), 4);
        due("160", fault("town" + (char) 160 + "2"), 4);
        due("blanks ahead of a fault", fault("   church"), 3);
    }

    /** 'A FAULT is at the first TOKEN .. that cannot stand there .. or at the end, if it comes too soon'. */
    private static void faultAtEachPlace() {
        String[][] lines = {{"town", "3"}, {"plain", "1"}, {"against", "1"}, {"second", "1"}, {"spring", "1"},
            {"way", "1", "1"}, {"vane", "0", "0"}, {"walker", "1"}, {"nobody"}};
        String[] odd = {";", ".", "-", "9", "00", "x", "Town", "" + (char) 255};
        for (String ahead : new String[] {"way 0 1;", "way 0 1 ; walker 0  ;  "}) {
            for (String[] line : lines) {
                String text = ahead;
                for (int i = 0; i < line.length; i++) {
                    due("'" + text + "' cut short", fault(text), text.length());
                    due("'" + text + "' cut short by blanks", fault(text + "  "), text.length() + 2);
                    for (String token : odd) {
                        due("'" + text + token + "'", fault(text + token + " 0 0"), text.length());
                    }
                    text += line[i] + " ";
                }
                due("'" + text + "' whole", fault(text), NONE);
                for (String token : odd) {
                    boolean parts = token.equals(";");
                    due("'" + text + token + "' behind it", fault(text + token), text.length() + (parts ? 1 : 0));
                }
            }
        }
    }

    /** fault: 'the byte with which the TOKEN begins, or the length'; the first FAULT counts, not a later one. */
    private static void firstFault() {
        due("empty: the length", fault(""), 0);
        due("blanks alone: the length", fault("  "), 2);
        due("200 blanks: the length", fault(repeat(" ", 200, "")), 200);
        due("two faults", fault("town 9;church"), 5);
        due("two faults in a line", fault("way 8 9"), 4);
        due("a fault behind a long line", fault("nobody" + repeat(" ", 193, "") + "x"), 199);
        due("cut short at 200", fault(repeat(" ", 196, "") + "town"), 200);
        NextWay x = new NextWay();
        due("none", fault(x, "nobody"), NONE);
        due("once more the same", x.fault(), NONE);
        write(x, ";");
        due("a longer text", x.fault(), 7);
        write(x, "town 2");
        due("a whole one again", x.fault(), NONE);
    }

    /** town: 'NOT: it has a FAULT'; the LINES ahead of the FAULT are not done, either. */
    private static void townOfAFault() {
        NextWay x = town("town 3;way 0 1;way 0 2;vane 0 1;walker 0;walker 2");
        x.go(1);
        x.keep(1);
        String before = state(x);
        for (String text : new String[] {"", " ", "town 2;nobody;", "nobody;spring 0;vane 0 2", "walker 0;way 0 0;town 1"}) {
            write(x, text);
            due("town of '" + text + "'", x.town(), NOT);
            due("the text stays", x.erase(), text.length());
            same("nothing changes", state(x), before);
        }
        due("kept stays", x.back(1), 1);
        write(x, "nobody;spring 0;vane 0 ");
        due("a fault yet", x.town(), NOT);
        write(x, "0");
        due("none any more", x.town(), 3);
        same("done then", state(x), "3 2 0 0 7 0 |3200|00-10|00-10");
        due("empty then", x.erase(), 0);
        due("of an empty one", x.town(), NOT);
    }

    /** 'Behind them it is BEAT 0, VANES are as told, WALKERS where they were told, nothing is kept', whatever they say. */
    private static void behindALine() {
        String told = "town 3;way 0 1;way 0 2;way 1 0;way 2 0;vane 0 1;walker 0;walker 1";
        for (String text : new String[] {"plain 0", "vane 0 1", "way 1 2", "walker 2", "nobody", "town 3"}) {
            NextWay x = town(told);
            x.keep(0);
            x.go(3);
            x.turn(0);
            x.put(0, 2);
            x.keep(1);
            x.go(1);
            same(text, state(tell(x, text)), state(town(told, text)));
            due("BEAT 0 behind " + text, x.count(3), 0);
            due("kept 0 behind " + text, x.back(0), NOT);
            due("kept 1 behind " + text, x.back(1), NOT);
        }
        NextWay x = tell(town(told), "plain 0");
        due("the vane as told", x.corner(0, 2), 1);
        due("the vane of another as at first", x.corner(1, 2), 0);
        due("a walker where he was told", x.walker(1), 1);
    }

    /** erase: 'THE TEXT is empty: how many bytes it had', from none to 200. */
    private static void erase() {
        NextWay x = town("town 3;way 0 1;walker 2");
        x.go(2);
        x.keep(0);
        due("none", x.erase(), 0);
        for (int n : new int[] {1, 8, 9, 199, 200}) {
            write(x, repeat("x", n, ""));
            due("had " + n, x.erase(), n);
            due("empty", x.count(5), 0);
        }
        due("none again", x.erase(), 0);
        due("all else stays", x.back(0), 2);
        same("all else stays", state(x), "3 1 1 2 6 0 |0100|00-10|00-11");
    }

    public static void main(String[] args) {
        corners();
        cornersOfLines();
        kinds();
        ways();
        fifthWay();
        vanes();
        walkers();
        sixthWalker();
        nobody();
        bytesOfTheText();
        bytesOfOneWrite();
        lines();
        semicolons();
        townAsAtFirst();
        behindTheLinesAhead();
        letters();
        digits();
        blanks();
        faultAtEachPlace();
        firstFault();
        townOfAFault();
        behindALine();
        erase();
        finish("the bounds of texts hold");
    }
}
