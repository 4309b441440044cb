/** Promises 11 to 21: words, dictionaries, and what is best, against others, at once, exchanged, joined, spied. */
public final class ChoicesTest {
    public static void main(String[] args) {
        word();
        beats();
        place();
        best();
        bestTies();
        against();
        atOnce();
        atOnceLimits();
        exchange();
        exchangeCosts();
        exchangeOfOneSideOnly();
        exchanged();
        home();
        peace();
        peaceByOrder();
        spy();
        slips();
        Due.end();
    }

    private static void word() {
        WordWar war = new WordWar();
        Due.lexicon(war, 1, "abca,l,aa");
        war.strength(0, 5);
        war.strength(2, 0);
        Due.law(war, "vm*100+s*10+i(1=1)");
        Due.reserve(war, 1, "aabc");
        Due.is("11: length", war.word(1, 0, 0), 4);
        Due.is("11: strength", war.word(1, 0, 1), 11);
        Due.is("11: stands", war.word(1, 0, 2), 0);
        Due.is("11: could be formed", war.word(1, 0, 3), 1);
        Due.is("11: worth", war.word(1, 0, 4), 511);
        Due.is("11: l", war.word(1, 1, 10), 11);
        Due.is("11: no second letter", war.word(1, 1, 11), -1);
        Due.is("11: no l", war.word(1, 1, 3), 0);
        for (int k = 0; k < 4; k++) {
            Due.is("11: letter", war.word(1, 0, 10 + k), "abca".charAt(k) - 'a');
        }
        int[] others = {-1, 5, 9, 14, 18, 20, Integer.MAX_VALUE, Integer.MIN_VALUE};
        for (int what : others) {
            Due.is("11: others", war.word(1, 0, what), -1);
        }
        Due.is("11: w 3", war.word(1, 3, 0), -1);
        Due.is("11: w -1", war.word(1, -1, 0), -1);
        Due.is("11: side 0 has none", war.word(0, 0, 0), -1);
        Due.is("11: side 2", war.word(2, 0, 0), -1);
        Due.is("11: side -1", war.word(-1, 0, 0), -1);
        Due.orders(war, 1, "+abca");
        Due.is("11: stands", war.word(1, 0, 2), 1);
        Due.is("11: can't be formed again", war.word(1, 0, 3), 0);
        Due.is("11: no a is left", war.word(1, 2, 3), 0);
        WordWar six = new WordWar();
        Due.lexicon(six, 0, "a,b,c,d,e,f,g");
        Due.reserve(six, 0, "abcdefg");
        Due.orders(six, 0, "+a;+b;+c;+d;+e");
        Due.is("11: five stand", six.word(0, 6, 3), 1);
        Due.orders(six, 0, "+f");
        Due.is("11: six stand", six.word(0, 6, 3), 0);
    }

    private static void beats() {
        WordWar war = new WordWar();
        Due.lexicon(war, 0, "ab,b,abc");
        Due.lexicon(war, 1, "ab,a,c");
        Due.is("12: like words", war.beats(0, 0), 0);
        Due.is("12: what ends first stands first", war.beats(0, 1), -1);
        Due.is("12: ahead", war.beats(0, 2), 1);
        Due.is("12: behind", war.beats(1, 0), -1);
        Due.is("12: longer", war.beats(2, 0), -1);
        Due.order(war, 1, "cbadefghijkl");
        Due.is("12: neither: c is ahead in both", war.beats(1, 2), 0);
        Due.is("12: each in the other one's", war.beats(1, 1), 0);
        Due.order(war, 0, "cbadefghijkl");
        Due.is("12: c by both", war.beats(1, 2), -1);
        Due.is("12: b by both", war.beats(1, 0), 1);
        Due.order(war, 1, "abcdefghijkl");
        Due.is("12: b > c by 1's, c > b by 0's", war.beats(1, 2), 0);
        Due.is("12: w 3", war.beats(3, 0), -2);
        Due.is("12: v 3", war.beats(0, 3), -2);
        Due.is("12: w -1", war.beats(-1, 0), -2);
        Due.is("12: v -1", war.beats(0, -1), -2);
    }

    private static void place() {
        WordWar war = new WordWar();
        Due.lexicon(war, 0, "c,ab,a,b");
        Due.order(war, 1, "bcadefghijkl");
        int[] own = {3, 1, 0, 2};
        int[] others = {1, 3, 2, 0};
        for (int w = 0; w < 4; w++) {
            Due.is("13: own", war.place(0, w, 0), own[w]);
            Due.is("13: the other one's", war.place(0, w, 1), others[w]);
        }
        Due.is("13: w 4", war.place(0, 4, 0), -1);
        Due.is("13: w -1", war.place(0, -1, 0), -1);
        Due.is("13: what 2", war.place(0, 0, 2), -1);
        Due.is("13: what -1", war.place(0, 0, -1), -1);
        Due.is("13: side 1 has none", war.place(1, 0, 0), -1);
        Due.is("13: side 2", war.place(2, 0, 0), -1);
    }

    private static void best() {
        WordWar war = new WordWar();
        Due.lexicon(war, 0, "abc,ab,bc,ca,d");
        Due.law(war, "v10(m=3);v6(m=2);v1(1=1)");
        Due.reserve(war, 0, "abcabc");
        Due.is("14: worth: abc and one, or the three", war.best(0, 0), 18);
        Due.is("14: which", war.best(0, 1), 2 + 4 + 8);
        Due.reserve(war, 0, "abcd");
        Due.is("14: worth", war.best(0, 0), 11);
        Due.is("14: which", war.best(0, 1), 1 + 16);
        Due.orders(war, 0, "+abc");
        Due.is("14: none that stand", war.best(0, 0), 1);
        Due.is("14: which", war.best(0, 1), 16);
        Due.is("14: no lexicon", war.best(1, 0), 0);
        Due.is("14: no lexicon", war.best(1, 1), 0);
        Due.is("14: side 2", war.best(2, 0), -1);
        Due.is("14: side -1", war.best(-1, 0), -1);
        Due.is("14: what 2", war.best(0, 2), -1);
        Due.is("14: what -1", war.best(0, -1), -1);
    }

    private static void bestTies() {
        WordWar war = new WordWar();
        Due.lexicon(war, 1, "a,b,c,d,e,f,g,h,i,j,k,l");
        Due.reserve(war, 1, "abcdefghijkl");
        Due.is("14: worth nothing", war.best(1, 0), 0);
        Due.is("14: none then", war.best(1, 1), 0);
        Due.law(war, "v5(1=1)");
        Due.is("14: six at most", war.best(1, 0), 30);
        Due.is("14: the least bits", war.best(1, 1), 63);
        Due.orders(war, 1, "+a;+l");
        Due.is("14: with those that stand", war.best(1, 0), 20);
        Due.is("14: the least bits", war.best(1, 1), 2 + 4 + 8 + 16);
        for (int letter = 0; letter < 12; letter++) {
            war.strength(letter, letter);
        }
        Due.law(war, "vs(1=1)");
        Due.is("14: the most", war.best(1, 0), 10 + 9 + 8 + 7);
        Due.is("14: which", war.best(1, 1), 1024 + 512 + 256 + 128);
        Due.orders(war, 1, "+b;+c;+d;+e");
        Due.is("14: six stand", war.best(1, 0), 0);
        Due.is("14: none", war.best(1, 1), 0);
        Due.lexicon(war, 1, "aaaaaaaa,aaaaaaab,aaaaaabb,aaaaabbb");
        war.reserve(1, 0, 999);
        war.reserve(1, 1, 3);
        Due.law(war, "vs(1=1)");
        war.strength(0, 1);
        war.strength(1, 3);
        Due.is("14: many of one letter", war.best(1, 0), 8 + 7 + 3 + 6 + 6);
        Due.is("14: which", war.best(1, 1), 7);
    }

    private static void against() {
        WordWar war = new WordWar();
        Due.lexicon(war, 0, "d,cc,c,aab,b");
        Due.lexicon(war, 1, "bb,cd,d,e");
        Due.reserve(war, 1, "bbcdde");
        Due.reserve(war, 0, "dccc");
        Due.is("15: none stands", war.against(0, 0), 0);
        Due.is("15: none", war.against(0, 1), 0);
        Due.orders(war, 1, "+bb;+cd;+d;+e");
        Due.is("15: cd, d, e", war.against(0, 0), 3);
        Due.is("15: one word, the first of like ones", war.against(0, 1), 2);
        Due.reserve(war, 0, "dcccaab");
        Due.is("15: all", war.against(0, 0), 4);
        Due.is("15: by aab", war.against(0, 1), 8);
        Due.order(war, 1, "edcbafghijkl");
        Due.is("15: by the other side's dictionary: bb, cd", war.against(0, 0), 2);
        Due.is("15: by d", war.against(0, 1), 1);
        Due.orders(war, 0, "+d");
        Due.is("15: none of these that stand", war.against(0, 0), 2);
        Due.is("15: by c, which is ahead of cd", war.against(0, 1), 4);
        Due.is("15: side 1 has no letters", war.against(1, 0), 0);
        Due.is("15: side 2", war.against(2, 0), -1);
        Due.is("15: side -1", war.against(-1, 0), -1);
        Due.is("15: what 2", war.against(0, 2), -1);
        Due.is("15: what -1", war.against(0, -1), -1);
        Due.lexicon(war, 0, "f,g,h,i,j,k,a");
        Due.reserve(war, 0, "fghijka");
        Due.order(war, 1, "abcdefghijkl");
        Due.is("15: by a", war.against(0, 1), 64);
        Due.orders(war, 0, "+f;+g;+h;+i;+j;+k");
        Due.is("15: six stand", war.against(0, 0), 0);
    }

    private static void atOnce() {
        WordWar war = new WordWar();
        Due.is("16: none", war.atOnce(0), 0);
        Due.is("16: none", war.atOnce(1), -2);
        Due.is("16: none", war.atOnce(2), -2);
        Due.is("16: what 3", war.atOnce(3), -1);
        Due.is("16: what -1", war.atOnce(-1), -1);
        Due.lexicon(war, 0, "c,a");
        Due.lexicon(war, 1, "d,b");
        Due.law(war, "v5(1=1)");
        Due.reserve(war, 0, "ac");
        Due.is("16: side 1 can't", war.atOnce(0), 0);
        Due.reserve(war, 1, "bd");
        // a beats both, c beats d and is beaten by b: 0 gains 5 by a whatever comes.
        Due.is("16: two", war.atOnce(0), 2);
        Due.is("16: a", war.atOnce(1), 1);
        Due.is("16: d", war.atOnce(2), 0);
        Due.law(war, "v5(i=0);v3(s=1);v4(1=1)");
        war.strength(1, 2);
        Due.is("16: b costs more", war.atOnce(0), 1);
        Due.is("16: a", war.atOnce(1), 1);
        Due.is("16: d", war.atOnce(2), 0);
        Due.law(war, "v0(1=1)");
        Due.is("16: nothing is worth anything", war.atOnce(0), 4);
        Due.is("16: the first", war.atOnce(1), 0);
        Due.is("16: the first", war.atOnce(2), 0);
    }

    private static void atOnceLimits() {
        // c's order makes both or neither beat: then nobody gains.
        WordWar war = new WordWar();
        Due.lexicon(war, 0, "a,b");
        Due.lexicon(war, 1, "a,b");
        Due.reserve(war, 0, "ab");
        Due.reserve(war, 1, "ab");
        Due.law(war, "v5(1=1)");
        Due.is("16: a against a alone", war.atOnce(0), 1);
        Due.is("16: a", war.atOnce(1), 0);
        Due.is("16: a", war.atOnce(2), 0);
        Due.order(war, 1, "badcefghijkl");
        // By 1's order b beats a, by 0's a beats b: a of 0 against b of 1: neither; b against a: both.
        Due.is("16: all are alike", war.atOnce(0), 4);
        Due.orders(war, 0, "+a");
        Due.is("16: a stands already", war.atOnce(0), 2);
        Due.is("16: b", war.atOnce(1), 1);
    }

    private static void exchange() {
        WordWar war = new WordWar();
        Due.lexicon(war, 0, "ab,cd");
        Due.lexicon(war, 1, "ef,gh");
        Due.law(war, "v5(m=2)");
        Due.reserve(war, 0, "aceg");
        Due.reserve(war, 1, "bdfh");
        Due.is("17: (e, b), (e, d), (g, b), (g, d)", war.exchange(0, 0), 4);
        Due.is("17: given e", war.exchange(0, 1), 4);
        Due.is("17: gotten b", war.exchange(0, 2), 1);
        Due.is("17: together", war.exchange(0, 3), 10);
        Due.is("17: asked by 1", war.exchange(1, 0), 4);
        Due.is("17: given b", war.exchange(1, 1), 1);
        Due.is("17: gotten e", war.exchange(1, 2), 4);
        Due.is("17: nothing is done", war.count(104), 1);
        war.strength(2, 9);
        war.strength(6, 7);
        Due.law(war, "vs(1=1)");
        Due.is("17: given g, gotten d", war.exchange(0, 1) * 100 + war.exchange(0, 2), 603);
        Due.is("17: together", war.exchange(0, 3), 10 + 8);
        Due.reserve(war, 0, "abcdeg");
        Due.is("17: none", war.exchange(0, 0), 0);
        for (int what = 1; what < 4; what++) {
            Due.is("17: none", war.exchange(0, what), -2);
        }
        Due.is("17: side 2", war.exchange(2, 0), -1);
        Due.is("17: side -1", war.exchange(-1, 0), -1);
        Due.is("17: what 4", war.exchange(0, 4), -1);
        Due.is("17: what -1", war.exchange(0, -1), -1);
    }

    private static void exchangeCosts() {
        WordWar war = new WordWar();
        Due.lexicon(war, 0, "ab,cd");
        Due.lexicon(war, 1, "ef,gh");
        Due.reserve(war, 0, "aceg");
        Due.reserve(war, 1, "bdfh");
        Due.law(war, "v5(m=2);w4(1=1)");
        Due.is("17: 5 is more than 4", war.exchange(0, 0), 4);
        Due.is("17: without w", war.exchange(0, 3), 10);
        Due.law(war, "v5(m=2);w5(1=1)");
        Due.is("17: 5 is not more than 5", war.exchange(0, 0), 0);
        Due.law(war, "v5(m=2);w5(x=4);w9(y=1)");
        Due.is("17: x is given, y gotten", war.exchange(0, 0), 1);
        Due.is("17: g", war.exchange(0, 1), 6);
        Due.is("17: d", war.exchange(0, 2), 3);
        Due.law(war, "v5(m=2);w5(i=0)");
        Due.is("17: i asks", war.exchange(0, 0), 0);
        Due.is("17: i asks", war.exchange(1, 0), 4);
        // A word that is given up for a better one still lets what is best grow.
        Due.lexicon(war, 0, "ab,ac");
        Due.lexicon(war, 1, "b");
        Due.reserve(war, 0, "ab");
        Due.reserve(war, 1, "c");
        Due.law(war, "v9(i=0&m=2&s=7);v5(1=1)");
        war.strength(2, 6);
        Due.is("17: b for c", war.exchange(0, 0), 1);
        Due.is("17: 4 and 5", war.exchange(0, 3), 9);
    }

    private static void exchangeOfOneSideOnly() {
        WordWar war = new WordWar();
        Due.lexicon(war, 0, "ab");
        Due.lexicon(war, 1, "c,b");
        Due.law(war, "v5(1=1)");
        Due.reserve(war, 0, "ad");
        Due.reserve(war, 1, "b");
        Due.is("17: side 1 would lose b", war.exchange(0, 0), 0);
        Due.reserve(war, 1, "bb");
        Due.is("17: side 1 would gain nothing by d", war.exchange(0, 0), 0);
        Due.reserve(war, 0, "ac");
        Due.is("17: c for b", war.exchange(0, 0), 1);
        Due.is("17: c", war.exchange(0, 1), 2);
        Due.lexicon(war, 0, "bc");
        Due.reserve(war, 0, "c");
        Due.is("17: side 0 would give what it needs", war.exchange(0, 0), 0);
        Due.is("17: asked by 1", war.exchange(1, 0), 0);
        Due.reserve(war, 0, "cc");
        Due.is("17: it has another one", war.exchange(0, 0), 1);
        Due.is("17: together", war.exchange(0, 3), 10);
    }

    private static void exchanged() {
        WordWar war = new WordWar();
        Due.reserve(war, 0, "aab");
        Due.reserve(war, 1, "c");
        Due.is("18: like ones", war.exchanged(0, 0, 0), false);
        Due.is("18: not there", war.exchanged(0, 3, 2), false);
        Due.is("18: not there", war.exchanged(0, 0, 1), false);
        Due.is("18: side 2", war.exchanged(2, 0, 2), false);
        Due.is("18: side -1", war.exchanged(-1, 0, 2), false);
        Due.is("18: letter 12", war.exchanged(0, 12, 2), false);
        Due.is("18: letter -1", war.exchanged(0, 0, -1), false);
        Due.is("18: nothing has changed", war.count(14) * 10 + war.count(15), 31);
        Due.is("18: a for c", war.exchanged(0, 0, 2), true);
        Due.is("18: one a is left", war.count(100), 1);
        Due.is("18: c has come", war.count(102), 1);
        Due.is("18: a has come", war.count(112), 1);
        Due.is("18: c has gone", war.count(114), 0);
        Due.is("18: back, asked by 1", war.exchanged(1, 0, 2), true);
        Due.is("18: as before", war.count(100) * 10 + war.count(114), 21);
        war.reserve(0, 2, 999);
        war.reserve(1, 0, 999);
        Due.is("18: above 999", war.exchanged(0, 0, 2), true);
        Due.is("18: is lost", war.count(102) + war.count(112), 1998);
        Due.is("18: gone", war.count(100) * 10 + war.count(114), 10);
    }

    private static void home() {
        WordWar war = new WordWar();
        Due.lexicon(war, 0, "ba,bb");
        Due.lexicon(war, 1, "ba,aa");
        Due.reserve(war, 0, "babab");
        Due.reserve(war, 1, "baaaa");
        Due.law(war, "p8(1=1)");
        Due.orders(war, 0, "+ba;+bb");
        Due.orders(war, 1, "+ba;+aa");
        Due.is("19: none", war.home(0, 1), false);
        Due.is("19: side 1 loses ba", Due.orders(war, 1, "ba>ba"), 1);
        Due.is("19: side 0 has lost none", war.home(0, 1), false);
        Due.is("19: side 0 loses ba", Due.orders(war, 0, "ba>aa"), 1);
        Due.is("19: side 0's", war.count(160) * 10 + war.count(161), 11);
        Due.is("19: side 1's", war.count(172) * 10 + war.count(173), 11);
        Due.is("19: not so many", war.home(0, 2), false);
        war.reserve(0, 0, 5);
        war.reserve(1, 0, 5);
        Due.is("19: not so many, whatever is in the reserves", war.home(0, 2), false);
        war.reserve(0, 0, 0);
        war.reserve(1, 0, 0);
        Due.is("19: n 0", war.home(0, 0), false);
        Due.is("19: n -1", war.home(0, -1), false);
        Due.is("19: letter 12", war.home(12, 1), false);
        Due.is("19: letter -1", war.home(-1, 1), false);
        int before = war.count(112);
        war.reserve(0, 0, 999);
        Due.is("19: a", war.home(0, 1), true);
        Due.is("19: above 999 is lost", war.count(100), 999);
        Due.is("19: home", war.count(112), before + 1);
        Due.is("19: no a is left", war.count(160) + war.count(172), 0);
        Due.is("19: b is", war.count(18) + war.count(19), 2);
    }

    private static String peaceOf(WordWar war) {
        StringBuilder row = new StringBuilder();
        int size = war.peace(0, 0, 20);
        for (int i = 0; i < size; i++) {
            row.append((char) ('a' + war.peace(0, 0, i)));
        }
        return row.toString();
    }

    private static void peace(String one, String two, String due) {
        WordWar war = new WordWar();
        Due.lexicon(war, 0, one);
        Due.lexicon(war, 1, two);
        String row = peaceOf(war);
        Due.is("20: " + one + ", " + two + ": " + row, row.equals(due), true);
        Due.is("20: behind it", war.peace(0, 0, due.length()), -2);
    }

    private static void peace() {
        peace("abc", "abc", "abc");
        peace("abc", "b", "abc");
        peace("a", "b", "ab");
        peace("b", "a", "ab");
        peace("abc", "cab", "cabc");
        peace("acb", "abc", "abcb");
        peace("abac", "cab", "cabac");
        peace("cabd", "abcd", "cabcd");
        peace("aabbccdd", "ddaabbcc", "ddaabbccdd");
        peace("abcdabcd", "dcbadcba", "abcdabcbadcba");
        peace("abcdefgh", "ijklijkl", "abcdefghijklijkl");
        peace("bdbd", "acac", "abcacdbd");
        WordWar war = new WordWar();
        Due.lexicon(war, 0, "ab");
        Due.is("20: no v", war.peace(0, 0, 20), -1);
        Due.lexicon(war, 1, "c");
        Due.is("20: no w", war.peace(1, 0, 20), -1);
        Due.is("20: no v", war.peace(0, 1, 0), -1);
        Due.is("20: w -1", war.peace(-1, 0, 0), -1);
        Due.is("20: v -1", war.peace(0, -1, 0), -1);
        Due.is("20: place -1", war.peace(0, 0, -1), -2);
        Due.is("20: place 19", war.peace(0, 0, 19), -2);
        Due.is("20: place 21", war.peace(0, 0, 21), -2);
        Due.is("20: the last one", war.peace(0, 0, 2), 2);
    }

    private static void peaceByOrder() {
        WordWar war = new WordWar();
        Due.lexicon(war, 0, "ab");
        Due.lexicon(war, 1, "cd");
        Due.order(war, 1, "lkjihgfedcba");
        Due.is("20: " + peaceOf(war), peaceOf(war).equals("abcd"), true);
        Due.order(war, 0, "cabdefghijkl");
        Due.is("20: by side 0's: " + peaceOf(war), peaceOf(war).equals("cabd"), true);
    }

    private static void spy() {
        WordWar war = new WordWar();
        Due.lexicon(war, 1, "abc,abd,bbc,ab,abcd,cbd,acb");
        Due.is("21: abd, bbc", war.spy(1, 0, 0), 2 + 4);
        Due.is("21: abc, cbd", war.spy(1, 1, 0), 1 + 32);
        Due.is("21: none", war.spy(1, 3, 0), 0);
        Due.is("21: w 7", war.spy(1, 7, 0), -1);
        Due.is("21: w -1", war.spy(1, -1, 0), -1);
        Due.is("21: side 2", war.spy(2, 0, 0), -1);
        Due.is("21: what 3", war.spy(1, 0, 3), -1);
        Due.is("21: what -1", war.spy(1, 0, -1), -1);
        Due.is("21: side 0 has none", war.spy(0, 0, 0), -1);
    }

    private static void slips() {
        WordWar war = new WordWar();
        Due.is("21: no words", war.spy(0, 0, 1), 0);
        Due.is("21: no words", war.spy(0, 0, 2), 0);
        Due.is("21: side 2", war.spy(2, 0, 1), -1);
        Due.lexicon(war, 0, "a,b,ab,cd,abc,bca,cab,abb,abcd");
        // One of a, b; one of ab, cd; abc, bca, cab; abcd.
        Due.is("21: most", war.spy(0, 99, 1), 6);
        Due.is("21: the least bits", war.spy(0, -5, 2), 1 + 4 + 16 + 32 + 64 + 256);
        Due.lexicon(war, 0, "aaa,aab,abb,bbb,ccc");
        Due.is("21: aaa, bbb, ccc", war.spy(0, 0, 2), 1 + 8 + 16);
        Due.lexicon(war, 0, "aaaa,aabb,bbaa,aaab,bbbb");
        Due.is("21: aaaa, bbbb", war.spy(0, 0, 1), 2);
        Due.is("21: aabb, bbaa are less", war.spy(0, 0, 2), 2 + 4);
    }
}
