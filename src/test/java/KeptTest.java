/** Promises 31 to 34: kept, undone, checked, counted. */
public final class KeptTest {
    public static void main(String[] args) {
        keepAndUndo();
        undoDissolves();
        undoLimits();
        check();
        count();
        Due.end();
    }

    private static WordWar twoArmies() {
        WordWar war = new WordWar();
        Due.lexicon(war, 0, "ab,c");
        Due.lexicon(war, 1, "bb,cc");
        Due.reserve(war, 0, "aabbc");
        Due.reserve(war, 1, "bbbcc");
        Due.law(war, "f1(1=1);p1(1=1);d10(1=1)");
        Due.orders(war, 0, "+ab;+c");
        Due.orders(war, 1, "+bb;+cc");
        war.soldier(7, 2, 1, 1, 1);
        Due.fight(war, "a>b");
        war.seed(99);
        return war;
    }

    private static void keepAndUndo() {
        WordWar war = twoArmies();
        Due.is("31: letters in both reserves", war.keep(), 3);
        Due.orders(war, 0, "ab>bb;ab>cc;-ab");
        war.reserve(1, 5, 100);
        war.turn();
        war.soldier(7, 3, 2, 2, 2);
        war.soldier(8, 3, 2, 2, 2);
        Due.fight(war, "c>d");
        Due.fight(war, "d>a");
        war.strength(0, 50);
        Due.order(war, 0, "lkjihgfedcba");
        war.feed(0, 0, 0, 0, 0);
        for (int again = 0; again < 2; again++) {
            Due.is("32: undone", war.undo(), true);
            Due.is("32: reserve", war.count(100) * 100 + war.count(101) * 10 + war.count(14), 112);
            Due.is("32: reserve", war.count(113) * 10 + war.count(15), 11);
            Due.is("32: graves", war.count(16) + war.count(17), 0);
            Due.is("32: prisoners", war.count(18) + war.count(19), 0);
            Due.is("32: fields", war.count(12) * 10 + war.count(13), 33);
            Due.is("32: the turn", war.count(0), 0);
            Due.is("32: X", war.count(3), 99);
            Due.is("32: fights", war.count(4), 1);
            Due.is("32: learnt", war.learnt(-1), 239500800L);
            Due.is("32: soldiers", war.count(5), 1);
            Due.is("32: the soldier", war.march(0, 1, 1, 1, -1), 0);
            Due.is("32: strength stays", war.count(220), 50);
            Due.is("32: the order stays", war.count(190), 11);
            Due.is("32: the tape stays", war.count(2), 20);
            Due.is("32: the law stays", war.count(1), 3);
            war.forget();
            war.reserve(0, 0, 77);
            war.turn();
            war.soldier(7, 0, 0, 0, 1);
        }
        Due.is("31: kept anew", war.keep() > 3, true);
        war.reserve(0, 0, 0);
        war.undo();
        Due.is("32: as kept last", war.count(0), 1);
    }

    private static void undoDissolves() {
        WordWar war = twoArmies();
        war.keep();
        Due.lexicon(war, 0, "a,c");
        Due.is("6: ab is dissolved", war.count(12), 2);
        Due.is("32: undone", war.undo(), true);
        Due.is("32: c stands by its new number", war.count(12), 2);
        Due.is("32: ab is dissolved", war.count(100) * 10 + war.count(101), 22);
        Due.lexicon(war, 0, "c,ab");
        Due.is("32: undone", war.undo(), true);
        Due.is("32: both stand", war.count(12), 3);
        Due.is("32: the reserve as it was kept", war.count(100) * 10 + war.count(101), 11);
    }

    private static void undoLimits() {
        WordWar war = new WordWar();
        Due.is("32: none was kept", war.undo(), false);
        Due.is("31: nothing", war.keep(), 0);
        war.reserve(0, 3, 4);
        Due.is("32: undone", war.undo(), true);
        Due.is("32: nothing", war.count(14), 0);
        Due.lexicon(war, 0, "aa");
        Due.reserve(war, 0, "aa");
        Due.orders(war, 0, "+aa");
        war.reserve(0, 0, 998);
        war.reserve(1, 11, 999);
        Due.is("31: both", war.keep(), 1997);
        Due.lexicon(war, 0, "b");
        war.reserve(0, 0, 0);
        Due.is("32: undone", war.undo(), true);
        Due.is("32: above 999 is lost", war.count(100), 999);
    }

    private static void check() {
        WordWar war = new WordWar();
        war.reserve(1, 0, 1);
        war.reserve(1, 1, 999);
        war.reserve(1, 11, 3);
        int[] right = {1, 999, 0, 0, 0, 0, 0, 0, 0, 0, 0, 3};
        for (int wrong = -1; wrong < 12; wrong++) {
            int[] n = right.clone();
            if (wrong >= 0) {
                n[wrong] ^= 0x01000000;
            }
            war.feed(n[0], n[1], n[2], n[3], n[4]);
            war.feed(n[5], n[6], n[7], n[8], n[9]);
            war.feed(n[10], n[11], -1, -1, -1);
            Due.is("33: the first wrong one", war.check(1, 12), wrong);
            Due.is("33: empty then", war.count(2), 0);
        }
        war.feed(1, 999, 5, 6, 7);
        Due.is("33: n 6", war.check(1, 6), -2);
        Due.is("33: n -1", war.check(1, -1), -2);
        Due.is("33: n 13", war.check(1, 13), -2);
        Due.is("33: side 2", war.check(2, 1), -2);
        Due.is("33: side -1", war.check(-1, 1), -2);
        Due.is("33: the tape stays", war.count(2), 20);
        Due.is("33: two", war.check(1, 2), -1);
        war.feed(1, 999, 5, 6, 7);
        Due.is("33: none", war.check(0, 0), -1);
        Due.is("33: empty then", war.count(2), 0);
        Due.is("33: none of none", war.check(0, 0), -1);
        Due.is("33: one of none", war.check(0, 1), -2);
    }

    private static void count() {
        WordWar war = twoArmies();
        Due.orders(war, 1, "bb>ab");
        Due.is("34: the turn", war.count(0), 0);
        Due.is("34: clauses", war.count(1), 3);
        Due.is("34: tape", war.count(2), 0);
        Due.is("34: X", war.count(3), (25173 * 99 + 13849) % 65536);
        Due.is("34: fights", war.count(4), 1);
        Due.is("34: soldiers", war.count(5), 1);
        Due.is("34: words", war.count(10) * 10 + war.count(11), 22);
        Due.is("34: fields", war.count(12) * 10 + war.count(13), 32);
        Due.is("34: reserves", war.count(14) * 10 + war.count(15), 21);
        Due.is("34: graves", war.count(16) * 10 + war.count(17), 1);
        Due.is("34: prisoners", war.count(18) * 10 + war.count(19), 1);
        Due.is("34: one b in the grave", war.count(130 + 12 + 1), 1);
        Due.is("34: one b taken", war.count(160 + 12 + 1), 1);
        int[] others = {-1, 6, 7, 8, 9, 20, 21, 99, 124, 129, 154, 159, 184, 189, 214, 219, 232, 1000,
            Integer.MAX_VALUE, Integer.MIN_VALUE};
        for (int what : others) {
            Due.is("34: others " + what, war.count(what), -1);
        }
    }
}
