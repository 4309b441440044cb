/** Promises 8 to 10: orders that are done or judged, and turns. */
public final class OrdersTest {
    public static void main(String[] args) {
        faults();
        refusals();
        forming();
        turning();
        spying();
        attackWon();
        attackLost();
        attackByEnemysDictionary();
        attackAsksTheLaw();
        attackRestsOfAWord();
        draws();
        judging();
        turns();
        turnTenths();
        turnLimits();
        Due.end();
    }

    private static void faults() {
        WordWar war = new WordWar();
        String twelve = "+a;-a;~a;a>a;?a.1b;+a;+a;+a;+a;+a;+a;+a";
        String[] texts = {"x", "+", "-", "~", "?", "+m", "+a,", "+a+b", "+a;", "+a;;", ";", "a", "a>", "a>b>c", "a+b",
            "a>b.", "?a", "?a.", "?a.1", "?a.1m", "?a.xb", "?a.0b", "?a.2b", "?a.9b", "?abcdefgh.9a", "?abcdefgh.8a",
            "?a.1bc", "?a>b", "+a.1b", "+abcdefghi", "abcdefghi>a", "a>abcdefghi", "?abcdefghi.1a", "+ a",
            twelve, twelve + ";", twelve + ";+", twelve + ";a", twelve + ";x", twelve + ";?", twelve + "a"};
        int[] due = {-1000, -1001, -1001, -1001, -1001, -1001, -1002, -1002, -1003, -1003, -1000, -1001, -1002, -1003,
            -1001, -1003, -1002, -1003, -1004, -1004, -1003, -6003, -6003, -6003, -6010, 0,
            -1005, -1002, -1002, -3009, -3008, -3010, -3009, -1001,
            0, -1040, -4040, -4040, -1040, -4040, 0};
        for (int i = 0; i < texts.length; i++) {
            Due.is("8: " + texts[i], Due.orders(war, 0, texts[i]), due[i]);
            Due.is("8: empty then", war.count(2), 0);
            Due.is("9: " + texts[i], Due.judged(war, 1, texts[i]), due[i]);
            Due.is("9: empty then", war.count(2), 0);
        }
        Due.lexicon(war, 0, "a");
        Due.reserve(war, 0, "a");
        Due.is("8: nothing is done with a fault", Due.orders(war, 0, "+a;+b;"), -1006);
        Due.is("8: a does not stand", war.count(12), 0);
    }

    private static void refusals() {
        WordWar war = new WordWar();
        Due.text(war, "+a".repeat(100));
        Due.is("8: side 2", war.orders(2, 2), -1);
        Due.is("8: side -1", war.orders(-1, 2), -1);
        Due.is("8: n 0", war.orders(0, 0), -1);
        Due.is("8: n 161", war.orders(0, 161), -1);
        Due.is("9: side 2", war.judged(2, 2), -1);
        Due.is("9: n 0", war.judged(0, 0), -1);
        Due.is("9: n 161", war.judged(0, 161), -1);
        Due.is("8: the tape stays", war.count(2), 200);
        Due.is("8: n 160", war.orders(0, 160), -1002);
        Due.text(war, "+a");
        Due.is("8: not so many", war.orders(0, 21), -1);
        Due.is("9: not so many", war.judged(0, 21), -1);
        Due.is("8: the tape stays", war.count(2), 20);
        Due.is("9: the first two bytes", war.judged(0, 2), 0);
    }

    private static void forming() {
        WordWar war = new WordWar();
        Due.lexicon(war, 0, "a,b,ab,aab,c,d,e,f");
        Due.reserve(war, 0, "aaabbcdef");
        Due.is("8: not in the lexicon", Due.orders(war, 0, "+ba"), 0);
        Due.is("8: one behind the other", Due.orders(war, 0, "+aab;+aab;+l"), 1);
        Due.is("8: aab stands", war.count(12), 8);
        Due.is("8: one a is left", war.count(100), 1);
        Due.is("8: six stand at most", Due.orders(war, 0, "+a;+b;+c;+d;+e;+f"), 5);
        Due.is("8: field", war.count(12), 1 | 2 | 8 | 16 | 32 | 64);
        Due.is("8: f is left", war.count(14), 1);
        Due.is("8: dissolved", Due.orders(war, 0, "-c;-c;-f;+f;-ab"), 2);
        Due.is("8: c is back", war.count(102), 1);
        Due.is("8: f is not", war.count(105), 0);
        Due.is("8: the other side has no such words", Due.orders(war, 1, "+a;-a"), 0);
        war.reserve(0, 0, 999);
        Due.is("8: dissolved", Due.orders(war, 0, "-a"), 1);
        Due.is("8: above 999 is lost", war.count(100), 999);
    }

    private static void turning() {
        WordWar war = new WordWar();
        Due.lexicon(war, 1, "abc,cba,aba,ab");
        Due.reserve(war, 1, "aaaaabbbbbcc");
        Due.is("8: it does not stand", Due.orders(war, 1, "~abc"), 0);
        Due.is("8: turned", Due.orders(war, 1, "+abc;~abc"), 2);
        Due.is("8: cba stands", war.count(13), 2);
        Due.is("8: the other one stands already", Due.orders(war, 1, "+abc;~abc"), 1);
        Due.is("8: backwards it is the same", Due.orders(war, 1, "+aba;~aba"), 1);
        Due.is("8: backwards it is no word", Due.orders(war, 1, "+ab;~ab"), 1);
        Due.is("8: the letters stay out", war.count(15), 12 - 3 - 3 - 3 - 2);
    }

    private static void spying() {
        WordWar war = new WordWar();
        Due.lexicon(war, 1, "abc,abd,ddd,abb");
        Due.reserve(war, 1, "aabbcd");
        Due.reserve(war, 0, "cdd");
        Due.orders(war, 1, "+abc");
        Due.is("8: no such word stands", Due.orders(war, 0, "?abd.3c"), 0);
        Due.is("8: no b in the own reserve", Due.orders(war, 0, "?abc.3b"), 0);
        Due.is("8: the same word", Due.orders(war, 0, "?abc.3c"), 0);
        Due.is("8: no word", Due.orders(war, 0, "?abc.1d"), 0);
        Due.is("8: nothing has left", war.count(14), 3);
        Due.is("8: a spy", Due.orders(war, 0, "?abc.3d"), 1);
        Due.is("8: abd stands", war.count(13), 2);
        Due.is("8: a d has left", war.count(103), 1);
        Due.is("8: the c is dead", war.count(130 + 12 + 2), 1);
        Due.is("8: no more", war.count(17), 1);
        Due.is("8: abc again", Due.orders(war, 1, "+abc"), 0);
        Due.reserve(war, 1, "abc");
        Due.is("8: abc again", Due.orders(war, 1, "+abc"), 1);
        Due.is("8: abd stands already", Due.orders(war, 0, "?abc.3d"), 0);
        Due.is("8: no spy on the own side", Due.orders(war, 1, "?abc.3b"), 0);
    }

    /** Side 0 has abc, bcd; side 1 has b, bc, bcd; all stand. */
    private static WordWar twoArmies(String law) {
        WordWar war = new WordWar();
        Due.lexicon(war, 0, "abc,bcd,ab,a");
        Due.lexicon(war, 1, "b,bc,bcd,ccc");
        Due.reserve(war, 0, "abcbcd");
        Due.reserve(war, 1, "bbcbcdccc");
        Due.is("8: law", Due.law(war, law) > 0, true);
        Due.is("8: formed", Due.orders(war, 0, "+abc;+bcd"), 2);
        Due.is("8: formed", Due.orders(war, 1, "+b;+bc;+bcd;+ccc"), 4);
        return war;
    }

    private static void attackWon() {
        WordWar war = twoArmies("f1(1=1);p1(1=1)");
        Due.is("8: no such word stands", Due.orders(war, 0, "ab>b;abc>cc;abc>abc"), 0);
        Due.is("8: no draw then", war.count(3), 1);
        Due.is("8: won", Due.orders(war, 0, "abc>ccc"), 1);
        Due.is("8: ccc is gone", war.count(13), 7);
        Due.is("8: one fell", war.count(144), 1);
        Due.is("8: one was taken", war.count(174), 1);
        Due.is("8: one is routed", war.count(114), 1);
        Due.is("8: abc stands", war.count(12), 3);
        Due.is("8: one draw", war.count(3), (25173 + 13849) % 65536);
        Due.is("8: bcd: d fell, c was taken, b stands already", Due.orders(war, 0, "abc>bcd"), 1);
        Due.is("8: b and bc stand", war.count(13), 3);
        Due.is("8: d fell", war.count(145), 1);
        Due.is("8: c was taken", war.count(174), 2);
        Due.is("8: b is routed", war.count(113), 1);
    }

    private static void attackLost() {
        WordWar war = twoArmies("f1(i=0);p2(i=1)");
        Due.is("8: like words: the first one loses", Due.orders(war, 0, "bcd>bcd"), 1);
        Due.is("8: bc is no word of side 0", war.count(12), 1);
        Due.is("8: d fell", war.count(133), 1);
        Due.is("8: b, c are routed", war.count(14), 2);
        Due.is("8: side 1 lost nothing", war.count(13), 15);
        Due.is("8: side 1 attacks and loses", Due.orders(war, 1, "ccc>abc"), 1);
        Due.is("8: two were taken", war.count(174), 2);
        Due.is("8: c is routed", war.count(114), 1);
    }

    private static void attackByEnemysDictionary() {
        WordWar war = twoArmies("f8(1=1)");
        Due.is("8: order", Due.order(war, 1, "lkjihgfedcba"), true);
        Due.is("8: by side 1's order abc stands behind b", Due.orders(war, 0, "abc>b"), 1);
        Due.is("8: abc is dead", war.count(16), 3);
        Due.is("8: bcd stands", war.count(12), 2);
        Due.is("8: by side 0's order b stands ahead", Due.orders(war, 1, "b>bcd"), 1);
        Due.is("8: none stands", war.count(12), 0);
        Due.is("8: all of side 0 are dead", war.count(16), 6);
    }

    private static void attackAsksTheLaw() {
        // m, s: of the one that lost; n, q: of the one that won.
        WordWar war = twoArmies("f2(m=3&s=15&n=2&q=10&i=0&t=0);f1(1=1)");
        war.strength(0, 1);
        war.strength(1, 4);
        war.strength(2, 6);
        war.strength(3, 5);
        Due.is("8: bcd attacks bc and loses", Due.orders(war, 0, "bcd>bc"), 1);
        Due.is("8: two fell", war.count(16), 2);
        war = twoArmies("f0-1(1=1);p20(1=1)");
        Due.is("8: bounds", Due.orders(war, 0, "abc>ccc"), 1);
        Due.is("8: none fell", war.count(17), 0);
        Due.is("8: all were taken", war.count(19), 3);
        war = twoArmies("f2(1=1);p8(1=1)");
        Due.is("8: as many as there are", Due.orders(war, 0, "abc>bcd"), 1);
        Due.is("8: two fell", war.count(17), 2);
        Due.is("8: one was taken", war.count(161 + 12), 1);
    }

    private static void attackRestsOfAWord() {
        WordWar war = twoArmies("f1(1=1)");
        Due.is("8: abc wins", Due.orders(war, 0, "abc>bcd"), 1);
        Due.is("8: bc stands already", war.count(13), 1 | 2 | 8);
        Due.is("8: b, c are routed", war.count(15), 2);
        Due.orders(war, 1, "-bc;+bcd");
        war.reserve(1, 3, 1);
        Due.orders(war, 1, "-bc;+bcd");
        Due.is("8: b, bcd, ccc", war.count(13), 1 | 4 | 8);
        Due.is("8: abc wins", Due.orders(war, 0, "abc>bcd"), 1);
        Due.is("8: bc stands on", war.count(13), 1 | 2 | 8);
        war = twoArmies("f0(1=1)");
        Due.is("8: none went", Due.orders(war, 0, "abc>bcd;abc>bcd"), 2);
        Due.is("8: the same stands on", war.count(13), 15);
        Due.is("8: nothing in the reserve", war.count(15), 0);
    }

    private static void draws() {
        int x = 4711;
        WordWar war = twoArmies("fr/5(1=1);pr%5(1=1)");
        war.seed(x);
        x = (int) ((25173L * x + 13849) % 65536);
        int r = x % 10;
        Due.orders(war, 0, "abc>ccc");
        Due.is("8: f by the draw", war.count(17), r / 5);
        Due.is("8: p by the same draw", war.count(19), Math.min(3 - r / 5, r % 5));
        Due.is("8: X", war.count(3), x);
    }

    private static void judging() {
        WordWar war = twoArmies("f1(1=1)");
        Due.is("9: all can", Due.judged(war, 0, "abc>bcd;-abc;+abc"), 3);
        Due.is("9: the first that can't", Due.judged(war, 0, "abc>bcd;abc>bcd;abc>b"), 1);
        Due.is("9: by what would be then", Due.judged(war, 0, "-abc;+ab;+a"), 2);
        Due.is("9: none can", Due.judged(war, 1, "+b"), 0);
        Due.is("9: X stays", war.count(3), 1);
        Due.is("9: the fields stay", war.count(12) * 100 + war.count(13), 315);
        Due.is("9: the reserves stay", war.count(14) + war.count(15), 0);
        Due.is("9: the graves stay", war.count(16) + war.count(17), 0);
        war = twoArmies("f8(r>4)");
        for (int seed = 0; seed < 40; seed++) {
            war.seed(seed);
            int r = (25173 * seed + 13849) % 65536 % 10;
            Due.is("9: by the draw that will come", Due.judged(war, 0, "abc>b;abc>b"), r > 4 ? 1 : 2);
        }
    }

    private static void turns() {
        WordWar war = new WordWar();
        Due.reserve(war, 0, "aab");
        Due.reserve(war, 1, "c");
        Due.is("10: no law", war.turn(), 0);
        Due.is("10: the turn", war.count(0), 1);
        int x = 1;
        for (int i = 0; i < 24; i++) {
            x = (int) ((25173L * x + 13849) % 65536);
        }
        Due.is("10: 24 draws", war.count(3), x);
        Due.law(war, "d10(i=0&x=0&h=2&t=1);d10(i=1&x=0);d10(x=3)");
        Due.is("10: one a goes over and back", war.turn(), 2);
        Due.is("10: side 0", war.count(100), 2);
        Due.is("10: side 1", war.count(112), 0);
        Due.law(war, "d10(i=0)");
        Due.is("10: all of side 0", war.turn(), 2);
        Due.is("10: a", war.count(112), 1);
        Due.is("10: b", war.count(113), 1);
    }

    /** Each letter has a draw of its own, side 0's first: it goes if that is below d. */
    private static void turnTenths() {
        for (int tenths = 0; tenths <= 10; tenths++) {
            WordWar war = new WordWar();
            Due.law(war, "d" + tenths + "(1=1)");
            war.seed(77 * tenths);
            int x = 77 * tenths;
            int[] due = new int[24];
            for (int i = 0; i < 24; i++) {
                war.reserve(i / 12, i % 12, 5);
                due[i] += 5;
                x = (int) ((25173L * x + 13849) % 65536);
                boolean goes = x % 10 < tenths;
                due[i] -= goes ? 1 : 0;
                due[(i + 12) % 24] += goes ? 1 : 0;
            }
            war.turn();
            for (int i = 0; i < 24; i++) {
                Due.is("10: d " + tenths, war.count(100 + i), due[i]);
            }
        }
    }

    private static void turnLimits() {
        WordWar war = new WordWar();
        war.reserve(0, 4, 3);
        war.reserve(1, 4, 999);
        Due.law(war, "d10(i=0)");
        Due.is("10: one deserts", war.turn(), 1);
        Due.is("10: it has left", war.count(104), 2);
        Due.is("10: above 999 is lost", war.count(116), 999);
    }
}
