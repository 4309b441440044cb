/** The sentences of "Terms" on letters, words, sides, dictionaries and lexicons, each at its boundaries. */
public final class EdgeTermsTest {
    private static final String TWELVE = "a,b,c,d,e,f,g,h,i,j,k,l";

    public static void main(String[] args) throws Exception {
        Edge.begin(args);
        things();
        dictionaries();
        lexicons();
        Edge.end();
    }

    private static void things() {
        Edge.of(Edge.TERMS, "LETTERS a to l (0 to 11)", EdgeTermsTest::lettersAsNumbers);
        Edge.of(Edge.TERMS, "LETTERS a to l (0 to 11)", EdgeTermsTest::lettersInTexts);
        Edge.of(Edge.TERMS, "each of a STRENGTH (0 to 99; 1 at first)", EdgeTermsTest::strengths);
        Edge.of(Edge.TERMS, "WORDS: 1 to 8 LETTERS.", EdgeTermsTest::wordSizes);
        Edge.of(Edge.TERMS, "SIDES 0 and 1", EdgeTermsTest::sides);
        Edge.of(Edge.TERMS, "each with an ORDER of LETTERS (a to l at first)", EdgeTermsTest::firstOrders);
        Edge.of(Edge.TERMS, "a LEXICON (12 WORDS at most; none at first)", EdgeTermsTest::lexiconSizes);
        Edge.of(Edge.TERMS, "a RESERVE, a GRAVE and PRISONERS (of each LETTER 0 to 999; 0 at first;", EdgeTermsTest::noneAtFirst);
        Edge.of(Edge.TERMS, "a RESERVE, a GRAVE and PRISONERS (of each LETTER 0 to 999;", EdgeTermsTest::reserveLimits);
        Edge.of(Edge.TERMS, "a RESERVE, a GRAVE and PRISONERS (of each LETTER 0 to 999;", EdgeTermsTest::graveLimits);
        Edge.of(Edge.TERMS, "a RESERVE, a GRAVE and PRISONERS (of each LETTER 0 to 999;", EdgeTermsTest::prisonerLimits);
        Edge.of(Edge.TERMS, "PRISONERS are LETTERS of its own that the other one has", EdgeTermsTest::whosePrisoners);
        Edge.of(Edge.TERMS, "a FIELD: WORDS of its LEXICON that stand (6 at most, each once).", EdgeTermsTest::fieldLimits);
        Edge.of(Edge.TERMS, "a FIELD: WORDS of its LEXICON that stand (6 at most, each once).", EdgeTermsTest::eachOnce);
    }

    private static void dictionaries() {
        Edge.of(Edge.TERMS, "A DICTIONARY of a SIDE: WORDS by its ORDER, letter by letter", EdgeTermsTest::letterByLetter);
        Edge.of(Edge.TERMS, "what ends first stands first.", EdgeTermsTest::endsFirst);
        Edge.of(Edge.TERMS, "A WORD BEATS one of the other SIDE, if it stands ahead of it in that one's own DICTIONARY.",
                EdgeTermsTest::beating);
    }

    private static void lexicons() {
        Edge.of(Edge.TERMS, "A LEXICON: a TEXT of at most 160 bytes", EdgeTermsTest::lexiconBytes);
        Edge.of(Edge.TERMS, "WORDS with a , between two.", EdgeTermsTest::commas);
        Edge.of(Edge.TERMS, "1 what can't stand there (the end, too); 3 a ninth LETTER of a WORD, at it; 4 a 13th WORD",
                EdgeTermsTest::cantStandThere);
        Edge.of(Edge.TERMS, "3 a ninth LETTER of a WORD, at it; 4 a 13th WORD, at its first LETTER", EdgeTermsTest::ninthLetter);
        Edge.of(Edge.TERMS, "4 a 13th WORD, at its first LETTER", EdgeTermsTest::thirteenthWord);
        Edge.of(Edge.TERMS, "6 a WORD told already, at its first LETTER (asked behind its last one).", EdgeTermsTest::toldAlready);
        Edge.of(Edge.TERMS, "FAULTS, the first from the left: 1 what can't stand there (the end, too); 3 a ninth LETTER of a WORD, at it; 4 a 13th WORD",
                EdgeTermsTest::firstFromTheLeft);
        Edge.of(Edge.TERMS, "(WORDS that stand and are not in a new LEXICON are dissolved: their LETTERS go to the RESERVE.)",
                EdgeTermsTest::dissolvedByALexicon);
        Edge.of(Edge.TERMS, "(WORDS that stand and are not in a new LEXICON are dissolved: their LETTERS go to the RESERVE.)",
                EdgeTermsTest::dissolvedAbove999);
    }

    // ---- letters, strengths, words, sides

    private static void lettersAsNumbers() {
        int[] letters = {-1, 0, 11, 12};
        for (int letter : letters) {
            WordWar war = new WordWar();
            boolean is = letter == 0 || letter == 11;
            int other = letter == 11 ? 10 : 1;
            Due.is("strength of " + letter, war.strength(letter, 2), is);
            Due.is("reserve of " + letter, war.reserve(0, letter, 2), is);
            Due.is("soldier " + letter, war.soldier(0, letter, 0, 0, 1), is);
            Due.is("ahead " + letter, war.ahead(letter, other), is ? 239500800L : -1);
            Due.is("ahead of " + letter, war.ahead(other, letter), is ? 239500800L : -1);
            war.reserve(0, other, 1);
            war.reserve(1, other, 1);
            Due.is("given " + letter, war.exchanged(0, letter, other), is);
            war.reserve(1, other, 1);
            Due.is("gotten " + letter, war.exchanged(1, other, letter), is);
        }
    }

    private static void lettersInTexts() {
        String[] signs = {"`", "a", "l", "m", "A", "L", "\0", "\13"};
        for (String sign : signs) {
            boolean is = sign.equals("a") || sign.equals("l");
            WordWar war = new WordWar();
            Due.is("lexicon " + sign, Due.lexicon(war, 0, sign), is ? 1 : -1000);
            Due.is("second letter " + sign, Due.lexicon(war, 0, "b" + sign), is ? 1 : -1001);
            Due.is("k " + sign, war.word(0, 0, 11), is ? sign.charAt(0) - 'a' : -1);
            Due.is("orders +" + sign, Due.orders(war, 0, "+" + sign), is ? 0 : -1001);
            Due.is("spy to " + sign, Due.orders(war, 0, "?b.1" + sign), is ? 0 : -1004);
            Due.is("fight " + sign, Due.fight(war, sign + ">b"), is ? 1 : -1000);
        }
    }

    private static void strengths() {
        WordWar war = new WordWar();
        for (int letter = 0; letter < 12; letter++) {
            Due.is("at first", war.count(220 + letter), 1);
        }
        int[] n = {-1, 0, 1, 98, 99, 100};
        for (int i = 0; i < n.length; i++) {
            int before = war.count(225);
            boolean is = i > 0 && i < 5;
            Due.is("strength " + n[i], war.strength(5, n[i]), is);
            Due.is("strength " + n[i], war.count(225), is ? n[i] : before);
        }
        Due.is("of e as it was", war.count(224), 1);
        Due.is("of g as it was", war.count(226), 1);
    }

    private static void wordSizes() {
        WordWar war = new WordWar();
        String letters = "abcdefghi";
        for (int size = 0; size <= 9; size++) {
            String word = letters.substring(0, size);
            int fault = size == 0 ? -1000 : -3008;
            boolean is = size >= 1 && size <= 8;
            Due.is("lexicon ,: " + word, Due.lexicon(war, 0, "l," + word), is ? 2 : fault - 2);
            Due.is("length", war.word(0, 1, 0), is ? size : size == 0 ? -1 : 8);
            Due.is("+: " + word, Due.orders(war, 0, "+" + word), is ? 0 : fault - 1);
            Due.is("fight: " + word, Due.fight(war, "ll>" + word), is ? size : fault - 3);
        }
        Due.is("h, the eighth one", war.word(0, 1, 17), 7);
    }

    private static void sides() {
        int[] sides = {-1, 0, 1, 2};
        for (int side : sides) {
            boolean is = side == 0 || side == 1;
            WordWar war = Due.armed("ab,b", "b", "ab,b", "b");
            Due.is("reserve", war.reserve(side, 2, 3), is);
            Due.is("lexicon", Due.lexicon(war, side, "b,ab"), is ? 2 : -1);
            Due.text(war, "+c;-b");
            Due.is("judged", war.judged(side, 2), is ? 0 : -1);
            Due.text(war, "+c;-b");
            Due.is("orders", war.orders(side, 5), is ? 1 : -1);
            Due.text(war, "\0\1\2\3\4\5\6\7\10\11\12\13");
            Due.is("order", Due.order(war, side, "abcdefghijkl"), side == 0 || side == 1);
            Due.is("word", war.word(side, 0, 0), is ? 1 : -1);
            Due.is("place", war.place(side, 1, 0), is ? 0 : -1);
            Due.is("best", war.best(side, 0), is ? 0 : -1);
            Due.is("against", war.against(side, 0), is ? 0 : -1);
            Due.is("exchange", war.exchange(side, 0), is ? 0 : -1);
            war.reserve(0, 0, 1);
            war.reserve(0, 1, 1);
            war.reserve(1, 0, 1);
            war.reserve(1, 1, 1);
            Due.is("exchanged", war.exchanged(side, 0, 1), is);
            Due.is("spy 0", war.spy(side, 0, 0), is ? 0 : -1);
            Due.is("spy 1", war.spy(side, 0, 1), is ? 2 : -1);
            Due.is("march", war.march(side, 0, 0, 0, -1), is ? -2 : -3);
            Due.is("dead", war.dead(side, -1), is ? 0 : -3);
            Due.is("check", war.check(side, 0), is ? -1 : -2);
        }
    }

    private static void firstOrders() {
        WordWar war = new WordWar();
        for (int k = 0; k < 12; k++) {
            Due.is("side 0", war.count(190 + k), k);
            Due.is("side 1", war.count(202 + k), k);
        }
    }

    private static void lexiconSizes() {
        WordWar war = new WordWar();
        Due.is("side 0, at first", war.count(10), 0);
        Due.is("side 1, at first", war.count(11), 0);
        Due.is("one", Due.lexicon(war, 0, "a"), 1);
        Due.is("eleven", Due.lexicon(war, 0, TWELVE.substring(0, 21)), 11);
        Due.is("eleven", war.count(10), 11);
        Due.is("no twelfth", war.word(0, 11, 0), -1);
        Due.is("twelve", Due.lexicon(war, 0, TWELVE), 12);
        Due.is("twelve", war.count(10), 12);
        Due.is("the twelfth", war.word(0, 11, 10), 11);
        Due.is("thirteen", Due.lexicon(war, 0, TWELVE + ",aa"), -4024);
        Due.is("still twelve", war.count(10), 12);
        Due.is("the other side has none", war.count(11), 0);
    }

    // ---- what is held

    private static void noneAtFirst() {
        WordWar war = new WordWar();
        for (int i = 0; i < 24; i++) {
            Due.is("reserve " + i, war.count(100 + i), 0);
            Due.is("grave " + i, war.count(130 + i), 0);
            Due.is("prisoners " + i, war.count(160 + i), 0);
        }
    }

    private static void reserveLimits() {
        WordWar war = new WordWar();
        int[] n = {-1, 0, 998, 999, 1000};
        int[] due = {0, 0, 998, 999, 999};
        for (int i = 0; i < n.length; i++) {
            Due.is("reserve " + n[i], war.reserve(1, 11, n[i]), n[i] == due[i]);
            Due.is("reserve " + n[i], war.count(123), due[i]);
        }
    }

    /** Side 1 loses so many a by attacks on side 0's a; law: f8 or p8. */
    private static void loseLetters(WordWar war, int n) {
        int left = n;
        while (left > 0) {
            war.reserve(1, 0, 999);
            StringBuilder acts = new StringBuilder();
            for (int pairs = 0; pairs < 6 && left > 0; pairs++) {
                String word = "aaaaaaaa".substring(0, Math.min(8, left));
                acts.append(acts.length() == 0 ? "+" : ";+").append(word).append(';').append(word).append(">a");
                left -= word.length();
            }
            Due.orders(war, 1, acts.toString());
        }
    }

    private static WordWar loser(String law) {
        WordWar war = Due.armed("a", "a", "a,aa,aaa,aaaa,aaaaa,aaaaaa,aaaaaaa,aaaaaaaa", "");
        Due.is("law", Due.law(war, law), 1);
        return war;
    }

    private static void graveLimits() {
        WordWar war = loser("f8(1=1)");
        loseLetters(war, 998);
        Due.is("998", war.count(142), 998);
        Due.is("998 in all", war.count(17), 998);
        loseLetters(war, 1);
        Due.is("999", war.count(142), 999);
        Due.is("the 999th", war.dead(1, 998), 0);
        loseLetters(war, 1);
        Due.is("999, one is lost", war.count(142), 999);
        Due.is("999 dead", war.dead(1, -1), 999);
        Due.is("999 alike", war.dead(1, -2), 999);
        Due.is("no 1000th", war.dead(1, 999), -3);
        loseLetters(war, 8);
        Due.is("999, eight are lost", war.count(17), 999);
        Due.is("no prisoners", war.count(19), 0);
    }

    private static void prisonerLimits() {
        WordWar war = loser("p8(1=1)");
        loseLetters(war, 998);
        Due.is("998", war.count(172), 998);
        loseLetters(war, 1);
        Due.is("999", war.count(172), 999);
        loseLetters(war, 1);
        Due.is("999, one is lost", war.count(172), 999);
        Due.is("999 in all", war.count(19), 999);
        loseLetters(war, 8);
        Due.is("999, eight are lost", war.count(172), 999);
        Due.is("none dead", war.count(17), 0);
    }

    private static void whosePrisoners() {
        WordWar war = Due.armed("a,c", "a,c", "b", "b");
        Due.law(war, "p8(1=1)");
        Due.is("a takes b", Due.orders(war, 0, "a>b"), 1);
        Due.is("side 1's b", war.count(173), 1);
        Due.is("side 1's", war.count(19), 1);
        Due.is("none of side 0's", war.count(18), 0);
        Due.is("no b is in side 0's reserve", war.count(101), 0);
    }

    private static void fieldLimits() {
        WordWar war = Due.armed(TWELVE, "a,b,c,d,e", "", "");
        Due.reserve(war, 0, "gl");
        Due.is("five stand", war.count(12), 31);
        Due.is("a sixth one", Due.orders(war, 0, "+l"), 1);
        Due.is("six stand", war.count(12), 31 + 2048);
        Due.is("no seventh one", Due.orders(war, 0, "+g"), 0);
        Due.is("six stand", war.count(12), 31 + 2048);
        Due.is("g is in the reserve", war.count(106), 1);
        Due.is("one less", Due.orders(war, 0, "-a;+g"), 2);
        Due.is("six stand", war.count(12), 30 + 64 + 2048);
    }

    private static void eachOnce() {
        WordWar war = Due.armed("ab,ba", "ab", "", "");
        Due.reserve(war, 0, "ab");
        Due.is("not twice", Due.orders(war, 0, "+ab"), 0);
        Due.is("one stands", war.count(12), 1);
        Due.is("its letters stay", war.count(14), 2);
        Due.is("another one of the same letters", Due.orders(war, 0, "+ba"), 1);
        Due.is("both stand", war.count(12), 3);
    }

    // ---- dictionaries

    private static void letterByLetter() {
        WordWar war = new WordWar();
        // By a to l: 0, 1, 2, 3 as they stand here; the first letter that is unlike decides, the eighth one, too.
        Due.lexicon(war, 0, "aaaaaaaa,aaaaaaab,ab,b");
        for (int w = 0; w < 4; w++) {
            Due.is("a to l", war.place(0, w, 0), w);
        }
        Due.is("order", Due.order(war, 0, "bcdefghijkla"), true);
        int[] due = {3, 2, 1, 0};
        for (int w = 0; w < 4; w++) {
            Due.is("a is the last letter", war.place(0, w, 0), due[w]);
            Due.is("in the other side's", war.place(0, w, 1), w);
        }
        String[] rows = {"aa,ah,al,ba,bh,bl,ca,cl,ha,hl,la,ll", "ga,gh,gl,ha,hh,hl,ka,kl,klllllll,la,lkllllll,ll"};
        for (String row : rows) {
            war = new WordWar();
            Due.lexicon(war, 1, row);
            for (int w = 0; w < 12; w++) {
                Due.is(row, war.place(1, w, 0), w);
            }
        }
    }

    private static void endsFirst() {
        WordWar war = new WordWar();
        Due.lexicon(war, 1, "aaaaaaaa,aaaaaaa,aa,a");
        Due.lexicon(war, 0, "aaaaaaa,ab");
        for (int w = 0; w < 4; w++) {
            Due.is("the shorter one first", war.place(1, w, 0), 3 - w);
        }
        Due.is("seven letters ahead of eight", war.beats(0, 0), 1);
        Due.is("like ones", war.beats(0, 1), 0);
        Due.is("two ahead of seven", war.beats(0, 2), -1);
        Due.is("order", Due.order(war, 1, "lkjihgfedcba"), true);
        for (int w = 0; w < 4; w++) {
            Due.is("by any order", war.place(1, w, 0), 3 - w);
        }
        Due.is("a letter decides ahead of an end", war.beats(1, 0), 0);
    }

    private static void beating() {
        WordWar war = new WordWar();
        Due.lexicon(war, 0, "a,b,c");
        Due.lexicon(war, 1, "b");
        Due.is("just ahead", war.beats(0, 0), 1);
        Due.is("like words: none stands ahead", war.beats(1, 0), 0);
        Due.is("just behind", war.beats(2, 0), -1);
        Due.order(war, 1, "bacdefghijkl");
        Due.is("a stands behind b in side 1's, ahead in side 0's: neither beats", war.beats(0, 0), 0);
        Due.is("c stands behind b in both", war.beats(2, 0), -1);
        Due.order(war, 1, "cbadefghijkl");
        Due.is("c is ahead of b in side 1's, b ahead of c in side 0's: both beat", war.beats(2, 0), 0);
        Due.order(war, 0, "cbadefghijkl");
        Due.is("c is ahead in both", war.beats(2, 0), 1);
        Due.is("a is behind in both", war.beats(0, 0), -1);
    }

    // ---- lexicons

    private static void lexiconBytes() {
        WordWar war = new WordWar();
        Due.text(war, "a,b" + "c".repeat(180));
        Due.is("0 bytes", war.lexicon(0, 0), -1);
        Due.is("161 bytes", war.lexicon(0, 161), -1);
        Due.is("the tape stays", war.count(2), 200);
        Due.is("160 bytes are looked at", war.lexicon(0, 160), -3010);
        Due.is("empty then", war.count(2), 0);
        Due.text(war, "a");
        Due.is("1 byte", war.lexicon(0, 1), 1);
        StringBuilder longest = new StringBuilder("aaaaaaaa");
        for (int i = 1; i < 12; i++) {
            longest.append(",bbbbbbb").append((char) ('a' + i));
        }
        Due.is("the longest one: 107 bytes", Due.lexicon(war, 0, longest.toString()), 12);
        Due.is("its last word", war.word(0, 11, 17), 11);
    }

    private static void commas() {
        WordWar war = new WordWar();
        Due.is("no ,", Due.lexicon(war, 0, "ab"), 1);
        Due.is("one ,", Due.lexicon(war, 0, "a,b"), 2);
        String[] others = {"+", "-", ";", ".", " ", "\0", "\u00ac"};
        for (String other : others) {
            Due.is("no , but " + other, Due.lexicon(war, 0, "a" + other + "b"), -1001);
        }
        Due.is("two together", Due.lexicon(war, 0, "a,,b"), -1002);
        Due.is("ahead of a word", Due.lexicon(war, 0, ",a"), -1000);
        Due.is("behind the last word", Due.lexicon(war, 0, "a,"), -1002);
        Due.is("the two stay", war.count(10), 2);
    }

    private static void cantStandThere() {
        WordWar war = new WordWar();
        String[] signs = {"`", "m", "A", " ", "\0", "\u00ff", "1"};
        for (String sign : signs) {
            Due.is("first: " + sign, Due.lexicon(war, 0, sign + "a"), -1000);
            Due.is("behind a letter: " + sign, Due.lexicon(war, 0, "a" + sign), -1001);
            Due.is("behind a ,: " + sign, Due.lexicon(war, 0, "a," + sign), -1002);
            Due.is("behind eight letters: " + sign, Due.lexicon(war, 0, "abcdefgh" + sign), -1008);
            Due.is("behind twelve words: " + sign, Due.lexicon(war, 0, TWELVE + sign), -1023);
        }
        Due.text(war, "a,b");
        Due.is("the end, though the tape goes on", war.lexicon(0, 2), -1002);
        Due.is("the end behind a twelfth ,", Due.lexicon(war, 0, TWELVE + ","), -1024);
        Due.is("none was taken", war.count(10), 0);
    }

    private static void ninthLetter() {
        WordWar war = new WordWar();
        Due.is("eight", Due.lexicon(war, 0, "abcdefgh"), 1);
        Due.is("nine", Due.lexicon(war, 0, "abcdefgha"), -3008);
        Due.is("ten: at the ninth one", Due.lexicon(war, 0, "abcdefghab"), -3008);
        Due.is("nine alike", Due.lexicon(war, 0, "aaaaaaaaa"), -3008);
        Due.is("of a second word", Due.lexicon(war, 0, "l,abcdefgh"), 2);
        Due.is("of a second word", Due.lexicon(war, 0, "l,abcdefghl"), -3010);
        Due.is("of a twelfth word", Due.lexicon(war, 0, TWELVE + "aaaaaaa"), 12);
        Due.is("of a twelfth word", Due.lexicon(war, 0, TWELVE + "aaaaaaaa"), -3030);
        Due.is("m is no ninth letter", Due.lexicon(war, 0, "abcdefghm"), -1008);
        Due.is("the end behind eight", Due.lexicon(war, 0, "abcdefgh,"), -1009);
        Due.is("the one before stays", war.count(10), 12);
    }

    private static void thirteenthWord() {
        WordWar war = new WordWar();
        Due.is("a twelfth one", Due.lexicon(war, 0, TWELVE), 12);
        Due.is("a 13th one", Due.lexicon(war, 0, TWELVE + ",ab"), -4024);
        Due.is("a 13th one, told already", Due.lexicon(war, 0, TWELVE + ",a"), -4024);
        Due.is("a 13th one of nine letters", Due.lexicon(war, 0, TWELVE + ",abcdefghi"), -4024);
        Due.is("behind longer words", Due.lexicon(war, 0, "aaaaaaaa," + TWELVE.substring(2) + ",ab"), -4031);
        Due.is("no letter", Due.lexicon(war, 0, TWELVE + ",m"), -1024);
        Due.is("no letter", Due.lexicon(war, 0, TWELVE + ",,"), -1024);
        Due.is("the one before stays", war.count(10), 12);
    }

    private static void toldAlready() {
        WordWar war = new WordWar();
        Due.is("right behind", Due.lexicon(war, 0, "a,a"), -6002);
        Due.is("behind others", Due.lexicon(war, 0, "abcdefgh,b,abcdefgh"), -6011);
        Due.is("a twelfth one is the first", Due.lexicon(war, 0, TWELVE.substring(0, 22) + "a"), -6022);
        Due.is("a twelfth one is the eleventh", Due.lexicon(war, 0, TWELVE.substring(0, 22) + "k"), -6022);
        Due.is("it goes on: another word", Due.lexicon(war, 0, "a,aa,aaa,ab"), 4);
        Due.is("it ends first: another word", Due.lexicon(war, 0, "aaa,aa,a"), 3);
        Due.is("the last letter is unlike", Due.lexicon(war, 0, "abcdefgh,abcdefgg"), 2);
        Due.is("the first letter is unlike", Due.lexicon(war, 0, "abcdefgh,bbcdefgh"), 2);
        Due.is("its ninth letter stands behind its first one", Due.lexicon(war, 0, "abcdefgh,abcdefgha"), -3017);
        Due.is("ahead of what can't stand behind it", Due.lexicon(war, 0, "ab,c,ab?"), -6005);
        Due.is("ahead of the end behind it", Due.lexicon(war, 0, "ab,c,ab,"), -6005);
        Due.is("of the lexicon before it does not matter", Due.lexicon(war, 0, "abcdefgh"), 1);
        Due.is("nor of the other side's", Due.lexicon(war, 1, "abcdefgh"), 1);
    }

    private static void firstFromTheLeft() {
        WordWar war = new WordWar();
        Due.is("1 ahead of 3", Due.lexicon(war, 0, "a,,abcdefghi"), -1002);
        Due.is("3 ahead of 1", Due.lexicon(war, 0, "abcdefghi,,"), -3008);
        Due.is("1 ahead of 6", Due.lexicon(war, 0, "a,m,a"), -1002);
        Due.is("6 ahead of 1", Due.lexicon(war, 0, "a,a,,"), -6002);
        Due.is("6 ahead of 3", Due.lexicon(war, 0, "a,a,abcdefghi"), -6002);
        Due.is("3 ahead of 6", Due.lexicon(war, 0, "abcdefghi,a,a"), -3008);
        Due.is("6 ahead of 4", Due.lexicon(war, 0, "a,a,b,c,d,e,f,g,h,i,j,k,l"), -6002);
        Due.is("4 ahead of 1", Due.lexicon(war, 0, TWELVE + ",aa,,"), -4024);
        Due.is("two of one kind", Due.lexicon(war, 0, "abcdefghijkl"), -3008);
    }

    private static void dissolvedByALexicon() {
        WordWar war = Due.armed("ab,c,cc,d,e,f", "ab,c,cc,d,e,f", "ab,c", "ab,c");
        Due.is("a fault dissolves none", Due.lexicon(war, 0, "ab,"), -1003);
        Due.is("all stand", war.count(12), 63);
        Due.is("the same words in another row", Due.lexicon(war, 0, "f,e,d,cc,c,ab"), 6);
        Due.is("all stand", war.count(12), 63);
        Due.is("the reserve is empty", war.count(14), 0);
        Due.is("without ab and cc", Due.lexicon(war, 0, "ba,f,c,e,d,abc"), 6);
        Due.is("four stand by their new numbers", war.count(12), 2 + 4 + 8 + 16);
        Due.is("a", war.count(100), 1);
        Due.is("b", war.count(101), 1);
        Due.is("c", war.count(102), 2);
        Due.is("no others", war.count(14), 4);
        Due.is("none of them", Due.lexicon(war, 0, "ba"), 1);
        Due.is("none stands", war.count(12), 0);
        Due.is("all are in the reserve", war.count(14), 8);
        Due.is("side 1's stand", war.count(13), 3);
        Due.is("side 1's reserve is empty", war.count(15), 0);
        Due.is("they don't come back", Due.lexicon(war, 0, "ab,c,cc,d,e,f"), 6);
        Due.is("none stands", war.count(12), 0);
    }

    private static void dissolvedAbove999() {
        int[] before = {996, 997, 998, 999};
        for (int n : before) {
            WordWar war = Due.armed("aa", "aa", "", "");
            war.reserve(0, 0, n);
            Due.is("lexicon", Due.lexicon(war, 0, "a"), 1);
            Due.is("two go to " + n, war.count(100), Math.min(999, n + 2));
        }
    }
}
