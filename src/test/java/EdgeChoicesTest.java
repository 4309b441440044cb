/** The sentences of the second part of "Terms": judged, best, against, at once, exchanges, peaces, spies. */
public final class EdgeChoicesTest {
    private static final String TWELVE = "a,b,c,d,e,f,g,h,i,j,k,l";

    public static void main(String[] args) throws Exception {
        Edge.begin(args);
        sets();
        twos();
        rows();
        Edge.end();
    }

    private static void sets() {
        Edge.of(Edge.TERMS, "JUDGED are ORDERS as if they were given now, by the DRAWS that will come: the first ACT that can't be.",
                EdgeChoicesTest::firstThatCant);
        Edge.of(Edge.TERMS, "JUDGED are ORDERS as if they were given now, by the DRAWS that will come",
                EdgeChoicesTest::byTheDrawsThatWillCome);
        Edge.of(Edge.TERMS, "BEST of a SIDE: a set of WORDS of its LEXICON that can be formed at once of its RESERVE",
                EdgeChoicesTest::formedAtOnce);
        Edge.of(Edge.TERMS, "(with those that stand 6 at most, none of these)", EdgeChoicesTest::sixAtMost);
        Edge.of(Edge.TERMS, "worth most together; of like ones the least bits.", EdgeChoicesTest::worthMost);
        Edge.of(Edge.TERMS, "worth most together; of like ones the least bits.", EdgeChoicesTest::leastBits);
        Edge.of(Edge.TERMS, "AGAINST: likewise a set by which most WORDS that stand on the other SIDE are BEATEN by one of it at least",
                EdgeChoicesTest::mostAreBeaten);
        Edge.of(Edge.TERMS, "AGAINST: likewise a set", EdgeChoicesTest::likewise);
        Edge.of(Edge.TERMS, "of like ones fewest WORDS; of like ones the least bits.", EdgeChoicesTest::fewestWords);
    }

    private static void twos() {
        Edge.of(Edge.TERMS, "AT ONCE: both form one WORD that they can now", EdgeChoicesTest::bothCanNow);
        Edge.of(Edge.TERMS, "the one that is BEATEN, and does not beat the other one, loses what its WORD is worth, the other one gains that (else nothing)",
                EdgeChoicesTest::whatIsLost);
        Edge.of(Edge.TERMS, "twos at which neither SIDE gains more by another WORD of its own alone: how many; the first (by SIDE 0's).",
                EdgeChoicesTest::neitherGainsMore);
        Edge.of(Edge.TERMS, "EXCHANGE: a SIDE gives one LETTER of its RESERVE for another LETTER of the other SIDE's RESERVE",
                EdgeChoicesTest::lettersAreThere);
        Edge.of(Edge.TERMS, "both gain, if what BEST is worth grows for each (for the one that asks by more than w)",
                EdgeChoicesTest::growsForEach);
        Edge.of(Edge.TERMS, "a SIDE gives one LETTER of its RESERVE for another LETTER of the other SIDE's RESERVE: both gain, if what BEST is worth grows for each",
                EdgeChoicesTest::givenIsGone);
        Edge.of(Edge.TERMS, "EXCHANGE: a SIDE gives one LETTER of its RESERVE", EdgeChoicesTest::deadDontMatter);
        Edge.of(Edge.TERMS, "how many twos (given, gotten); the one by which both together gain most (without w; of like ones the first).",
                EdgeChoicesTest::mostTogether);
    }

    private static void rows() {
        Edge.of(Edge.TERMS, "PEACE of two WORDS: the shortest row of LETTERS in which both are, in their order, with others between",
                EdgeChoicesTest::shortestRows);
        Edge.of(Edge.TERMS, "of like ones the one that stands first in SIDE 0's DICTIONARY.", EdgeChoicesTest::firstRow);
        Edge.of(Edge.TERMS, "BY A SPY: WORDS of a LEXICON that are like a told one but for one LETTER.", EdgeChoicesTest::butForOne);
        Edge.of(Edge.TERMS, "A LEXICON BEARS a slip if of any two WORDS of one length three LETTERS or more are unlike",
                EdgeChoicesTest::threeOrMore);
        Edge.of(Edge.TERMS, "if of any two WORDS of one length", EdgeChoicesTest::ofOneLength);
        Edge.of(Edge.TERMS, "the most WORDS of it that do; of like ones the least bits.", EdgeChoicesTest::mostThatBear);
    }

    // ---- judged

    private static void firstThatCant() {
        WordWar war = Due.armed("a,b", "a", "", "");
        Due.reserve(war, 0, "b");
        Due.is("the first one", Due.judged(war, 0, "+a"), 0);
        Due.is("the first of two", Due.judged(war, 0, "+a;+a"), 0);
        Due.is("the last one", Due.judged(war, 0, "+b;-a;-a"), 2);
        Due.is("none", Due.judged(war, 0, "+b;-a;+a"), 3);
        Due.is("none of one", Due.judged(war, 0, "-a"), 1);
        Due.is("as if those ahead of it were done", Due.judged(war, 0, "-a;-b"), 1);
        String eleven = "-a;+a;-a;+a;-a;+a;-a;+a;-a;+a;-a";
        Due.is("the twelfth one", Due.judged(war, 0, eleven + ";-a"), 11);
        Due.is("none of twelve", Due.judged(war, 0, eleven + ";+a"), 12);
        Due.is("nothing is done", war.count(12), 1);
        Due.is("nothing is done", war.count(14), 1);
        WordWar six = Due.armed("a,b,c,d,e,f,g", "a,b,c,d,e", "", "");
        Due.reserve(six, 0, "fg");
        Due.is("six stand then", Due.judged(six, 0, "+f;+g"), 1);
        Due.is("five stand", six.count(12), 31);
    }

    private static void byTheDrawsThatWillCome() {
        for (int seed = 0; seed < 20; seed++) {
            int first = (25173 * seed + 13849) % 65536;
            int second = (int) ((25173L * first + 13849) % 65536);
            WordWar war = Due.armed("a", "a", "bb,b", "bb");
            Due.law(war, "f1(r=" + first % 10 + "&m=2);f1(r=" + second % 10 + "&m=1)");
            war.seed(seed);
            String before = Due.state(war);
            Due.is("bb, then b, then none", Due.judged(war, 0, "a>bb;a>b;a>b"), 2);
            Due.same("nothing is done", Due.state(war), before);
            Due.is("judged again", Due.judged(war, 0, "a>bb;a>b;a>b"), 2);
            Due.is("and given", Due.orders(war, 0, "a>bb;a>b;a>b"), 2);
            Due.is("X", war.count(3), second);
        }
    }

    // ---- best

    private static void best(WordWar war, int worth, int bits) {
        Due.is("best is worth", war.best(0, 0), worth);
        Due.is("best is", war.best(0, 1), bits);
    }

    private static void formedAtOnce() {
        WordWar war = Due.armed("ab,bc,aaaaaaaa,l", "", "", "");
        Due.law(war, "v1(1=1)");
        best(war, 0, 0);
        Due.reserve(war, 0, "aaaaaaa");
        best(war, 0, 0);
        Due.reserve(war, 0, "aaaaaaaa");
        best(war, 1, 4);
        Due.reserve(war, 0, "abc");
        best(war, 1, 1);
        Due.reserve(war, 0, "abbc");
        best(war, 2, 3);
        Due.reserve(war, 0, "aaaaaaaabbcl");
        best(war, 3, 1 + 2 + 8);
        Due.reserve(war, 0, "aaaaaaaaabbcl");
        best(war, 4, 15);
        for (int letter = 0; letter < 12; letter++) {
            war.reserve(0, letter, 999);
        }
        best(war, 4, 15);
        Due.is("nothing is formed", war.count(12), 0);
        // One letter for two words, be it any: two letters for xx, or one for x.
        for (char letter = 'a'; letter <= 'l'; letter++) {
            war = Due.armed(letter + "" + letter + "," + letter, "", "", "");
            Due.law(war, "v3(m=2);v1(1=1)");
            int[] worth = {0, 1, 3, 4, 4};
            int[] bits = {0, 2, 1, 3, 3};
            for (int n = 0; n < 5; n++) {
                war.reserve(0, letter - 'a', n);
                best(war, worth[n], bits[n]);
            }
        }
    }

    private static void sixAtMost() {
        String[] standing = {"", "l", "h,i,j,k", "h,i,j,k,l", "g,h,i,j,k,l"};
        for (String words : standing) {
            WordWar war = Due.armed(TWELVE, words, "", "");
            Due.law(war, "v1(1=1)");
            Due.reserve(war, 0, TWELVE.replace(",", ""));
            int n = words.isEmpty() ? 0 : words.split(",").length;
            best(war, 6 - n, (1 << 6 - n) - 1);
        }
        WordWar war = Due.armed("a,b,c", "a,c", "", "");
        Due.law(war, "v1(1=1)");
        Due.reserve(war, 0, "abc");
        best(war, 1, 2);
        Due.is("b is formed", Due.orders(war, 0, "+b"), 1);
        best(war, 0, 0);
        Due.is("a is dissolved", Due.orders(war, 0, "-a"), 1);
        best(war, 1, 1);
        Due.is("the same words by other numbers", Due.lexicon(war, 0, "c,l,a,b"), 4);
        best(war, 1, 4);
    }

    private static void worthMost() {
        WordWar war = Due.armed("ab,a,b", "", "", "");
        Due.reserve(war, 0, "ab");
        Due.law(war, "v5(m=2);v2(1=1)");
        best(war, 5, 1);
        Due.law(war, "v4(m=2);v2(1=1)");
        best(war, 4, 1);
        Due.law(war, "v3(m=2);v2(1=1)");
        best(war, 4, 6);
        Due.law(war, "v9999(1=1)");
        best(war, 19998, 6);
        war = Due.armed(TWELVE, "", "", "");
        Due.reserve(war, 0, TWELVE.replace(",", ""));
        Due.law(war, "v9999(1=1)");
        best(war, 59994, 63);
        war.strength(11, 2);
        Due.law(war, "v2(s=2);v1(1=1)");
        best(war, 7, 31 + 2048);
    }

    private static void leastBits() {
        WordWar war = Due.armed("a,b,c", "", "", "");
        Due.reserve(war, 0, "abc");
        best(war, 0, 0);
        Due.law(war, "v0(1=1)");
        best(war, 0, 0);
        war.strength(1, 2);
        Due.law(war, "v1(s=2)");
        best(war, 1, 2);
        war = Due.armed("ab,b,c,bc,ac,a", "", "", "");
        Due.law(war, "vm(1=1)");
        Due.reserve(war, 0, "abc");
        // ab and c, b and ac, bc and a, or b, c and a: all are worth 3; ab and c are 1 + 4.
        best(war, 3, 1 + 4);
        Due.lexicon(war, 0, "c,bc,a,b,ab");
        // a and bc are 2 + 4; c, a and b are more; c and ab are more.
        best(war, 3, 2 + 4);
        Due.lexicon(war, 0, "abc,bc,a");
        best(war, 3, 1);
        Due.lexicon(war, 0, "bc,a,abc");
        best(war, 3, 3);
    }

    // ---- against

    private static void against(WordWar war, int beaten, int bits) {
        Due.is("so many are beaten", war.against(0, 0), beaten);
        Due.is("by", war.against(0, 1), bits);
    }

    private static void mostAreBeaten() {
        WordWar war = Due.armed("a,b,c,d", "", "b,c,d", "");
        Due.reserve(war, 0, "abcd");
        against(war, 0, 0);
        Due.form(war, 1, "b");
        against(war, 1, 1);
        Due.reserve(war, 0, "bcd");
        against(war, 0, 0);
        Due.form(war, 1, "c");
        against(war, 1, 2);
        Due.form(war, 1, "d");
        against(war, 2, 2);
        Due.reserve(war, 0, "cd");
        against(war, 1, 4);
        Due.order(war, 1, "dcbaefghijkl");
        against(war, 2, 8);
        Due.order(war, 0, "dcbaefghijkl");
        against(war, 2, 8);
        war = Due.armed("a", "", "b,c,d,e,f,g", "b,c,d,e,f,g");
        Due.reserve(war, 0, "a");
        against(war, 6, 1);
    }

    private static void likewise() {
        WordWar war = Due.armed("a,b,c,d,e,f,gg", "a,b,c,d,e", "l", "l");
        against(war, 0, 0);
        Due.reserve(war, 0, "g");
        against(war, 0, 0);
        Due.reserve(war, 0, "gg");
        against(war, 1, 64);
        Due.reserve(war, 0, "abcdegg");
        against(war, 1, 64);
        Due.reserve(war, 0, "fgg");
        against(war, 1, 32);
        Due.is("a sixth one", Due.orders(war, 0, "+f"), 1);
        against(war, 0, 0);
        Due.is("side 1 has none", war.against(1, 0), 0);
        Due.is("side 1 has none", war.against(1, 1), 0);
    }

    private static void fewestWords() {
        WordWar war = Due.armed("d,b,c,a", "", "e,f", "e,f");
        Due.reserve(war, 0, "abcd");
        against(war, 2, 1);
        Due.reserve(war, 0, "abc");
        against(war, 2, 2);
        war = Due.armed("d,b,c,a", "", "d,b", "d,b");
        Due.reserve(war, 0, "abcd");
        // c beats d alone; a beats both; b beats d alone, d none.
        against(war, 2, 8);
        Due.reserve(war, 0, "bcd");
        against(war, 1, 2);
    }

    // ---- at once

    private static void atOnce(WordWar war, int twos, int first, int second) {
        Due.is("twos", war.atOnce(0), twos);
        Due.is("side 0's", war.atOnce(1), first);
        Due.is("side 1's", war.atOnce(2), second);
    }

    private static void bothCanNow() {
        WordWar war = Due.armed("a,bb", "", "a,bb", "");
        atOnce(war, 0, -2, -2);
        Due.reserve(war, 0, "a");
        atOnce(war, 0, -2, -2);
        Due.reserve(war, 1, "b");
        atOnce(war, 0, -2, -2);
        Due.reserve(war, 1, "bb");
        atOnce(war, 1, 0, 1);
        Due.reserve(war, 0, "b");
        atOnce(war, 0, -2, -2);
        Due.reserve(war, 0, "abb");
        Due.reserve(war, 1, "abb");
        atOnce(war, 4, 0, 0);
        Due.is("one stands already", Due.orders(war, 1, "+a"), 1);
        atOnce(war, 2, 0, 1);
        war = Due.armed(TWELVE, "a,b,c,d,e", "a", "");
        Due.reserve(war, 0, "l");
        Due.reserve(war, 1, "a");
        atOnce(war, 1, 11, 0);
        Due.reserve(war, 0, "ll");
        Due.is("a sixth one", Due.orders(war, 0, "+l"), 1);
        Due.reserve(war, 0, "k");
        atOnce(war, 0, -2, -2);
    }

    private static void whatIsLost() {
        // a of side 1 beats b of side 0, and is worth more: but what is lost is b.
        WordWar war = Due.armed("b,c", "", "a", "");
        Due.reserve(war, 0, "bc");
        Due.reserve(war, 1, "a");
        war.strength(0, 90);
        war.strength(1, 5);
        war.strength(2, 6);
        Due.law(war, "vs(1=1)");
        atOnce(war, 1, 0, 0);
        war.strength(2, 5);
        atOnce(war, 2, 0, 0);
        war.strength(2, 4);
        atOnce(war, 1, 1, 0);
        // A word of side 1 that side 0 has, too: neither beats the other one, nothing is lost.
        Due.lexicon(war, 0, "b,c,a");
        Due.reserve(war, 0, "abc");
        atOnce(war, 1, 2, 0);
        // b and a are each ahead in the other one's dictionary, or behind in both: nothing.
        Due.order(war, 1, "bacdefghijkl");
        Due.reserve(war, 0, "bc");
        atOnce(war, 1, 0, 0);
        Due.order(war, 1, "abcdefghijkl");
        Due.order(war, 0, "bacdefghijkl");
        atOnce(war, 1, 0, 0);
    }

    private static void neitherGainsMore() {
        // c loses its worth against a, and gains d's; side 1 has a and d: it chooses a, then side 0 may have either.
        WordWar war = Due.armed("c,b", "", "d,a", "");
        Due.reserve(war, 0, "bc");
        Due.reserve(war, 1, "ad");
        Due.law(war, "v3(1=1)");
        atOnce(war, 2, 0, 1);
        war.strength(2, 2);
        Due.law(war, "v4(s=2);v3(1=1)");
        atOnce(war, 1, 1, 1);
        Due.law(war, "v2(s=2);v3(1=1)");
        atOnce(war, 1, 0, 1);
        Due.law(war, "v0(1=1)");
        atOnce(war, 4, 0, 0);
        // By side 1's order c, d, a, b: a beats b and c beats d, else nothing: at any two one side would go on.
        war = Due.armed("a,c", "", "b,d", "");
        Due.order(war, 1, "cdabefghijkl");
        Due.reserve(war, 0, "ac");
        Due.reserve(war, 1, "bd");
        Due.law(war, "v1(1=1)");
        atOnce(war, 0, -2, -2);
        Due.reserve(war, 1, "d");
        atOnce(war, 1, 1, 1);
        Due.law(war, "v1(i=0)");
        Due.reserve(war, 1, "bd");
        atOnce(war, 4, 0, 0);
    }

    // ---- exchanges

    private static void exchange(WordWar war, int side, int twos, int given, int gotten, int together) {
        Due.is("twos", war.exchange(side, 0), twos);
        Due.is("given", war.exchange(side, 1), given);
        Due.is("gotten", war.exchange(side, 2), gotten);
        Due.is("together", war.exchange(side, 3), together);
    }

    private static void lettersAreThere() {
        WordWar war = Due.armed("b", "", "a", "");
        Due.law(war, "v1(1=1)");
        exchange(war, 0, 0, -2, -2, -2);
        Due.reserve(war, 0, "a");
        exchange(war, 0, 0, -2, -2, -2);
        Due.reserve(war, 1, "b");
        exchange(war, 0, 1, 0, 1, 2);
        exchange(war, 1, 1, 1, 0, 2);
        Due.reserve(war, 0, "");
        exchange(war, 0, 0, -2, -2, -2);
        // Twelve words of each side.
        war = Due.armed("aa,ba,ca,da,ea,fa,ga,ha,ia,ja,ka,la", "", "ab,bb,cb,db,eb,fb,gb,hb,ib,jb,kb,lb", "");
        Due.law(war, "v1(1=1)");
        Due.reserve(war, 0, "bl");
        Due.reserve(war, 1, "al");
        exchange(war, 0, 1, 1, 0, 2);
        exchange(war, 1, 1, 0, 1, 2);
        // The first and the last letter.
        war = Due.armed("l", "", "a", "");
        Due.law(war, "v1(1=1)");
        Due.reserve(war, 0, "a");
        Due.reserve(war, 1, "l");
        exchange(war, 0, 1, 0, 11, 2);
        exchange(war, 1, 1, 11, 0, 2);
        // A letter for the same letter changes nothing.
        war = Due.armed("aa", "", "a", "");
        Due.law(war, "v1(1=1)");
        Due.reserve(war, 0, "a");
        Due.reserve(war, 1, "a");
        exchange(war, 0, 0, -2, -2, -2);
    }

    private static void growsForEach() {
        WordWar war = Due.armed("ab,a", "", "e,f", "");
        Due.reserve(war, 0, "ae");
        Due.reserve(war, 1, "b");
        Due.law(war, "v5(m=2);v4(1=1)");
        exchange(war, 0, 1, 4, 1, 1 + 4);
        Due.law(war, "v4(m=2);v4(1=1)");
        exchange(war, 0, 0, -2, -2, -2);
        exchange(war, 1, 0, -2, -2, -2);
        Due.law(war, "v5(m=2);v0(i=1);v4(1=1)");
        exchange(war, 0, 0, -2, -2, -2);
        Due.law(war, "v5(m=2);v1(i=1);v4(1=1)");
        exchange(war, 0, 1, 4, 1, 2);
        Due.law(war, "v5(m=2);v1(i=1);v4(1=1);w1(1=1)");
        exchange(war, 0, 0, -2, -2, -2);
        Due.law(war, "v6(m=2);v1(i=1);v4(1=1);w1(1=1)");
        exchange(war, 0, 1, 4, 1, 3);
        exchange(war, 1, 0, -2, -2, -2);
        Due.law(war, "v6(m=2);v2(i=1);v4(1=1);w1(1=1)");
        exchange(war, 1, 1, 1, 4, 4);
        Due.is("six others stand", Due.lexicon(war, 0, "ab,a,g,h,i,j,k,l"), 8);
        Due.form(war, 0, "g,h,i,j,k,l");
        Due.reserve(war, 0, "ae");
        exchange(war, 0, 0, -2, -2, -2);
    }

    private static void givenIsGone() {
        // Side 0 needs its only a, side 1 its only b.
        WordWar war = Due.armed("ab,a", "", "ab,b", "");
        Due.law(war, "v3(m=2);v1(1=1)");
        Due.reserve(war, 0, "a");
        Due.reserve(war, 1, "b");
        exchange(war, 0, 0, -2, -2, -2);
        Due.reserve(war, 0, "aa");
        exchange(war, 0, 0, -2, -2, -2);
        Due.reserve(war, 1, "bb");
        exchange(war, 0, 1, 0, 1, 4);
        exchange(war, 1, 1, 1, 0, 4);
    }

    private static void deadDontMatter() {
        for (char letter = 'b'; letter <= 'l'; letter++) {
            WordWar war = Due.armed("a", "a", letter + "," + "dddddddd".replace('d', letter), "dddddddd".replace('d', letter));
            Due.law(war, "f8(1=1);v1(1=1)");
            Due.is("eight die", Due.orders(war, 0, "a>" + "dddddddd".replace('d', letter)), 1);
            Due.is("a stands no more", Due.orders(war, 0, "-a"), 1);
            Due.is("one word is left", Due.lexicon(war, 1, "" + letter), 1);
            Due.reserve(war, 0, "" + letter);
            Due.reserve(war, 1, "a");
            exchange(war, 1, 1, 0, letter - 'a', 2);
        }
    }

    private static void mostTogether() {
        WordWar war = Due.armed("ab,dl", "", "fe,gh", "");
        Due.law(war, "v1(1=1)");
        Due.reserve(war, 0, "adeh");
        Due.reserve(war, 1, "bfgl");
        exchange(war, 0, 4, 4, 1, 2);
        exchange(war, 1, 4, 1, 4, 2);
        war.strength(11, 5);
        Due.law(war, "v2(s=6);v1(1=1)");
        exchange(war, 0, 4, 4, 11, 3);
        war.strength(7, 5);
        exchange(war, 0, 4, 7, 11, 4);
        Due.law(war, "v2(s=6);v1(1=1);w1(1=1)");
        exchange(war, 0, 2, 7, 11, 4);
        war.strength(11, 1);
        war.strength(7, 1);
        Due.law(war, "v2(1=1);w1(1=1)");
        exchange(war, 0, 4, 4, 1, 4);
        Due.law(war, "v2(1=1);w2(x=4)");
        exchange(war, 0, 2, 7, 1, 4);
    }

    // ---- peaces

    private static void peace(WordWar war, String row) {
        Due.is("letters of " + row, war.peace(0, 0, 20), row.length());
        for (int i = 0; i < row.length(); i++) {
            Due.is(row + " at " + i, war.peace(0, 0, i), row.charAt(i) - 'a');
        }
        Due.is("behind " + row, war.peace(0, 0, row.length()), -2);
        Due.is("ahead of " + row, war.peace(0, 0, -1), -2);
    }

    private static void shortestRows() {
        String[][] rows = {{"a", "a", "a"}, {"a", "b", "ab"}, {"a", "aa", "aa"}, {"aa", "a", "aa"},
            {"aaaaaaaa", "aaaaaaaa", "aaaaaaaa"}, {"aaaaaaaa", "bbbbbbbb", "aaaaaaaabbbbbbbb"},
            {"abcdefgh", "h", "abcdefgh"}, {"h", "abcdefgh", "abcdefgh"}, {"abcdefgh", "hgfedcba", "abcdefghgfedcba"},
            {"abababab", "babababa", "ababababa"}, {"lllllllk", "lllllllj", "llllllljk"},
            {"ac", "bc", "abc"}, {"ca", "cb", "cab"}, {"abc", "acb", "abcb"}, {"ba", "ac", "bac"}, {"ac", "ba", "bac"},
            {"cab", "abc", "cabc"}, {"abc", "cab", "cabc"}, {"dabc", "abcd", "dabcd"}, {"hgabcdef", "abcdefhg", "hgabcdefhg"},
            {"abcdefhg", "hgabcdef", "hgabcdefhg"}, {"bcda", "abcd", "abcda"}, {"lkj", "akj", "alkj"}};
        for (String[] row : rows) {
            WordWar war = Due.armed(row[0], "", row[1], "");
            peace(war, row[2]);
        }
    }

    private static void firstRow() {
        WordWar war = Due.armed("ab", "", "ba", "");
        peace(war, "aba");
        Due.order(war, 1, "bacdefghijkl");
        peace(war, "aba");
        Due.order(war, 0, "bacdefghijkl");
        peace(war, "bab");
        Due.order(war, 1, "abcdefghijkl");
        peace(war, "bab");
        war = Due.armed("a", "", "l", "");
        peace(war, "al");
        Due.order(war, 0, "lkjihgfedcba");
        peace(war, "la");
        war = Due.armed("abcd", "", "adcb", "");
        // Some rows of six letters: abcdcb, abdcbd, adbcbd, adcbcd.
        peace(war, "abcdcb");
        Due.order(war, 0, "dcbaefghijkl");
        peace(war, "adcbcd");
    }

    // ---- spies

    private static void butForOne() {
        WordWar war = Due.armed("aaa,aab,aba,baa,abb,bbb,aa,aaaa,lll,ala", "", "", "");
        Due.is("one letter is unlike", war.spy(0, 0, 0), 2 + 4 + 8 + 512);
        Due.is("of abb", war.spy(0, 4, 0), 2 + 4 + 32);
        Due.is("of aa: no other one of two letters", war.spy(0, 6, 0), 0);
        Due.is("of lll: two or three are unlike", war.spy(0, 8, 0), 0);
        Due.is("the last one", war.spy(0, 9, 0), 1 + 4);
        war = Due.armed("a,b,c,d,e,f,g,h,i,j,k,aaaaaaaa", "", "a", "");
        Due.is("of a: all of one letter but itself", war.spy(0, 0, 0), 2046);
        Due.is("of the twelfth", war.spy(0, 11, 0), 0);
        Due.is("of side 1's", war.spy(1, 0, 0), 0);
        war = Due.armed("aaaaaaaa,baaaaaaa,aaaaaaab,baaaaaab", "", "", "");
        Due.is("the first or the eighth letter", war.spy(0, 0, 0), 2 + 4);
    }

    private static void bears(WordWar war, String lexicon, int most, int bits) {
        Due.lexicon(war, 0, lexicon);
        Due.is(lexicon, war.spy(0, 0, 1), most);
        Due.is(lexicon, war.spy(0, 0, 2), bits);
    }

    private static void threeOrMore() {
        WordWar war = new WordWar();
        Due.is("no words", war.spy(0, 0, 1), 0);
        Due.is("no words", war.spy(0, 0, 2), 0);
        bears(war, "a", 1, 1);
        bears(war, "aaaa,aaab", 1, 1);
        bears(war, "aaaa,aabb", 1, 1);
        bears(war, "aaaa,abbb", 2, 3);
        bears(war, "aaaa,bbbb", 2, 3);
        bears(war, "aaa,bbb", 2, 3);
        bears(war, "aaa,abb", 1, 1);
        bears(war, "aa,bb", 1, 1);
        bears(war, "a,b", 1, 1);
        bears(war, "abc,bca,cab", 3, 7);
    }

    private static void ofOneLength() {
        WordWar war = new WordWar();
        bears(war, "a,aa", 2, 3);
        bears(war, "a,aa,aaa,aaaa,aaaaa,aaaaaa,aaaaaaa,aaaaaaaa", 8, 255);
        bears(war, "aaa,aaaa,aab", 2, 3);
        bears(war, "aab,aaaa,aaa", 2, 3);
    }

    private static void mostThatBear() {
        WordWar war = new WordWar();
        bears(war, "aab,aaa,bbb,abb", 2, 6);
        bears(war, "a,b,c,d,e,f,g,h,i,j,k,l", 1, 1);
        bears(war, "aaa,bbb,ccc,ddd,eee,fff,ggg,hhh,iii,jjj,kkk,lll", 12, 4095);
        bears(war, "aaa,bbb,ccc,ddd,eee,fff,ggg,hhh,iii,jjj,kkk,kkl", 11, 2047);
        // The first one stands against both others.
        bears(war, "aab,aaa,bbb", 2, 6);
        bears(war, "aaa,aab,abb,bbb", 2, 9);
        Due.is("side 1's: no words", war.spy(1, 0, 1), 0);
    }
}
