/** The sentences of "Terms" on orders, attacks, turns and draws, each at its boundaries. */
public final class EdgeOrdersTest {
    private static final String TWELVE_ACTS = "+a;-a;~a;a>a;?a.1b;+a;+a;+a;+a;+a;+a;+a";

    public static void main(String[] args) throws Exception {
        Edge.begin(args);
        acts();
        faults();
        attacks();
        turns();
        Edge.end();
    }

    private static void acts() {
        Edge.of(Edge.TERMS, "ORDERS of a SIDE: a TEXT of at most 160 bytes", EdgeOrdersTest::bytes);
        Edge.of(Edge.TERMS, "ACTS (12 at most) with a ; (59) between two", EdgeOrdersTest::manyActs);
        Edge.of(Edge.TERMS, "+WORD: it is formed (it is in the LEXICON", EdgeOrdersTest::formedOfTheLexicon);
        Edge.of(Edge.TERMS, "it is formed (it is in the LEXICON, does not stand,", EdgeOrdersTest::formedOnce);
        Edge.of(Edge.TERMS, "5 stand at most,", EdgeOrdersTest::fiveStand);
        Edge.of(Edge.TERMS, "its LETTERS are in the RESERVE: they leave it", EdgeOrdersTest::lettersLeave);
        Edge.of(Edge.TERMS, "-WORD: it is dissolved (it stands)", EdgeOrdersTest::dissolved);
        Edge.of(Edge.TERMS, "~WORD: it is turned (it stands;", EdgeOrdersTest::turnedThatStands);
        Edge.of(Edge.TERMS, "backwards it is another WORD of the LEXICON that does not stand: that one stands then)",
                EdgeOrdersTest::turnedIntoAnother);
        Edge.of(Edge.TERMS, "WORD>WORD: the first one, which stands, attacks the second one, which stands on the other SIDE",
                EdgeOrdersTest::attackersStand);
        Edge.of(Edge.TERMS, "?WORD.kL: a spy changes the k-th LETTER (k a digit, 1 to 8)", EdgeOrdersTest::changedPlace);
        Edge.of(Edge.TERMS, "of a WORD that stands on the other SIDE into a LETTER L", EdgeOrdersTest::changedThatStands);
        Edge.of(Edge.TERMS, "L is in the own RESERVE and leaves it", EdgeOrdersTest::spyLeaves);
        Edge.of(Edge.TERMS, "what comes is another WORD of the other LEXICON that does not stand: that one stands then",
                EdgeOrdersTest::whatComes);
        Edge.of(Edge.TERMS, "the LETTER that was there is in the other SIDE's GRAVE.", EdgeOrdersTest::spyKills);
    }

    private static void faults() {
        Edge.of(Edge.TERMS, "FAULTS, the first from the left: 1 what can't stand there (the end, too); 3 a ninth LETTER of a WORD, at it; 4 a 13th ACT",
                EdgeOrdersTest::cantStandThere);
        Edge.of(Edge.TERMS, "3 a ninth LETTER of a WORD, at it; 4 a 13th ACT", EdgeOrdersTest::ninthLetter);
        Edge.of(Edge.TERMS, "4 a 13th ACT, at its first byte (if that can stand there)", EdgeOrdersTest::thirteenthAct);
        Edge.of(Edge.TERMS, "6 a k of 0, 9, or above the WORD's length, at it.", EdgeOrdersTest::noSuchPlace);
        Edge.of(Edge.TERMS, "FAULTS, the first from the left: 1 what can't stand there (the end, too); 3 a ninth LETTER of a WORD, at it; 4 a 13th ACT",
                EdgeOrdersTest::firstFromTheLeft);
    }

    private static void attacks() {
        Edge.of(Edge.TERMS, "AN ATTACK: if the first WORD BEATS the second one, that one has lost, else the first one (with like WORDS, too).",
                EdgeOrdersTest::whoLoses);
        Edge.of(Edge.TERMS, "if the first WORD BEATS the second one, that one has lost", EdgeOrdersTest::byTheEnemysDictionary);
        Edge.of(Edge.TERMS, "With a DRAW, f and p (both asked now)", EdgeOrdersTest::oneDraw);
        Edge.of(Edge.TERMS, "With a DRAW, f and p (both asked now)", EdgeOrdersTest::bothAskedNow);
        Edge.of(Edge.TERMS, "from its end on f LETTERS (as many as there are) go to its GRAVE", EdgeOrdersTest::fallen);
        Edge.of(Edge.TERMS, "(as many as there are) go to its GRAVE, then p to its PRISONERS", EdgeOrdersTest::taken);
        Edge.of(Edge.TERMS, "the LETTERS ahead of these stand on, if they are a WORD of its LEXICON that does not stand",
                EdgeOrdersTest::restStandsOn);
        Edge.of(Edge.TERMS, "(or the same, if none went)", EdgeOrdersTest::noneWent);
        Edge.of(Edge.TERMS, "else they go to its RESERVE (ROUTED).", EdgeOrdersTest::routed);
    }

    private static void turns() {
        Edge.of(Edge.TERMS, "A TURN: of SIDE 0, then 1, of each LETTER: with a DRAW", EdgeOrdersTest::drawsOfATurn);
        Edge.of(Edge.TERMS, "if that is below d (asked then)", EdgeOrdersTest::belowD);
        Edge.of(Edge.TERMS, "if that is below d (asked then)", EdgeOrdersTest::askedThen);
        Edge.of(Edge.TERMS, "and one is in the RESERVE, one of it goes to the other SIDE's RESERVE", EdgeOrdersTest::oneIsThere);
        Edge.of(Edge.TERMS, "then THE TURN (0 at first) is one more.", EdgeOrdersTest::oneMore);
        Edge.of(Edge.TERMS, "DRAWS: X = (25173 X + 13849) modulo 65536 (X is THE SEED at first, 1): X modulo 10.",
                EdgeOrdersTest::draws);
        Edge.of(Edge.TERMS, "(What would be above 999 is lost.)", EdgeOrdersTest::above999);
    }

    /** X after so many draws. */
    private static int drawn(int x, int n) {
        long next = x;
        for (int i = 0; i < n; i++) {
            next = (25173 * next + 13849) % 65536;
        }
        return (int) next;
    }

    // ---- acts

    private static void bytes() {
        String long17 = "abcdefgh>abcdefgh;";
        String text = long17.repeat(8) + "abcdefgh>bcdefgh";
        WordWar war = Due.armed("abcdefgh", "abcdefgh", "bcdefgh", "bcdefgh");
        Due.is("it has 160 bytes", text.length(), 160);
        Due.is("160 bytes: the last act is done", Due.orders(war, 0, text), 1);
        Due.is("160 bytes: the last one can't stand there", Due.orders(war, 0, text.substring(0, 159) + "m"), -1159);
        Due.is("159 bytes", Due.orders(war, 0, text.substring(0, 159)), 0);
        Due.text(war, text + "h");
        Due.is("161 bytes", war.orders(0, 161), -1);
        Due.is("judged: 161 bytes", war.judged(0, 161), -1);
        Due.is("the tape stays", war.count(2), 180);
        Due.is("0 bytes", war.orders(0, 0), -1);
        Due.is("judged: 0 bytes", war.judged(0, 0), -1);
        Due.is("judged: 160 bytes", war.judged(0, 160), 0);
        Due.is("empty then", war.count(2), 0);
    }

    private static void manyActs() {
        WordWar war = Due.armed("a", "", "", "");
        Due.reserve(war, 0, "a");
        String six = "+a;-a;+a;-a;+a;-a";
        Due.is("one", Due.orders(war, 0, "+a"), 1);
        Due.is("one", Due.orders(war, 0, "-a"), 1);
        Due.is("eleven", Due.orders(war, 0, six + ";" + six.substring(0, 14)), 11);
        Due.is("a stands", war.count(12), 1);
        Due.is("twelve", Due.orders(war, 0, "-a;" + six + ";" + six.substring(0, 14)), 12);
        Due.is("a stands", war.count(12), 1);
        Due.is("thirteen", Due.orders(war, 0, "-a;" + six + ";" + six), -4036);
        Due.is("a stands", war.count(12), 1);
        Due.is("no ; but :", Due.orders(war, 0, "-a:+a"), -1002);
        Due.is("no ; but <", Due.orders(war, 0, "-a<+a"), -1002);
        Due.is("no ; but ,", Due.orders(war, 0, "-a,+a"), -1002);
        Due.is("nothing between", Due.orders(war, 0, "-a+a"), -1002);
        Due.is("two together", Due.orders(war, 0, "-a;;+a"), -1003);
        Due.is("ahead of all", Due.orders(war, 0, ";-a"), -1000);
        Due.is("behind all", Due.orders(war, 0, "-a;"), -1003);
        Due.is("a stands", war.count(12), 1);
    }

    private static void formedOfTheLexicon() {
        WordWar war = Due.armed("ab", "", "abc,ba", "");
        Due.reserve(war, 0, "aabbcc");
        Due.reserve(war, 1, "aabbcc");
        Due.is("it goes on", Due.orders(war, 0, "+abc"), 0);
        Due.is("it ends first", Due.orders(war, 0, "+a"), 0);
        Due.is("it is backwards in the other one's", Due.orders(war, 0, "+ba"), 0);
        Due.is("none stands", war.count(12), 0);
        Due.is("all letters are in the reserve", war.count(14), 6);
        Due.is("in it", Due.orders(war, 0, "+ab"), 1);
        Due.is("it is in the other side's alone", Due.orders(war, 1, "+ab"), 0);
        Due.is("it is in its own", Due.orders(war, 1, "+ba"), 1);
        Due.is("side 0's field", war.count(12), 1);
        Due.is("side 1's field", war.count(13), 2);
    }

    private static void formedOnce() {
        WordWar war = Due.armed("ab", "", "", "");
        Due.reserve(war, 0, "aabb");
        Due.is("once", Due.orders(war, 0, "+ab;+ab"), 1);
        Due.is("two letters are left", war.count(14), 2);
        Due.is("again, when it does not stand any more", Due.orders(war, 0, "-ab;+ab"), 2);
        Due.is("two letters are left", war.count(14), 2);
    }

    private static void fiveStand() {
        WordWar war = Due.armed("a,b,c,d,e,f,g", "a,b,c,d", "", "");
        Due.reserve(war, 0, "efg");
        Due.is("4 stand", Due.orders(war, 0, "+e"), 1);
        Due.is("5 stand", Due.orders(war, 0, "+f"), 1);
        Due.is("6 stand", Due.orders(war, 0, "+g"), 0);
        Due.is("six of them", war.count(12), 63);
        Due.is("its letter stays", war.count(106), 1);
        Due.is("5 stand again", Due.orders(war, 0, "-f;+g"), 2);
        Due.is("six of them", war.count(12), 31 + 64);
    }

    private static void lettersLeave() {
        WordWar war = Due.armed("aaaaaaaa,aab", "", "", "");
        Due.reserve(war, 0, "aaaaaaa");
        Due.is("seven of eight", Due.orders(war, 0, "+aaaaaaaa"), 0);
        Due.is("seven are left", war.count(100), 7);
        war.reserve(0, 0, 8);
        Due.is("eight of eight", Due.orders(war, 0, "+aaaaaaaa"), 1);
        Due.is("none is left", war.count(100), 0);
        Due.reserve(war, 0, "aa");
        Due.is("no b", Due.orders(war, 0, "+aab"), 0);
        Due.reserve(war, 0, "abb");
        Due.is("one a", Due.orders(war, 0, "+aab"), 0);
        Due.reserve(war, 0, "aaabb");
        Due.is("more than enough", Due.orders(war, 0, "+aab"), 1);
        Due.is("one a is left", war.count(100), 1);
        Due.is("one b is left", war.count(101), 1);
    }

    private static void dissolved() {
        WordWar war = Due.armed("aab,b", "aab", "b", "b");
        Due.is("it does not stand", Due.orders(war, 0, "-b"), 0);
        Due.is("it is in no lexicon", Due.orders(war, 0, "-aa"), 0);
        Due.is("it stands on the other side", Due.orders(war, 1, "-aab"), 0);
        Due.is("nothing has come", war.count(14), 0);
        Due.is("it stands", Due.orders(war, 0, "-aab"), 1);
        Due.is("none stands", war.count(12), 0);
        Due.is("two a", war.count(100), 2);
        Due.is("one b", war.count(101), 1);
        Due.is("it does not stand any more", Due.orders(war, 0, "-aab"), 0);
        Due.is("nothing more has come", war.count(14), 3);
        Due.is("side 1's stands", war.count(13), 1);
    }

    private static void turnedThatStands() {
        WordWar war = Due.armed("ab,ba", "", "ab,ba", "ab");
        Due.reserve(war, 0, "ab");
        Due.is("it does not stand", Due.orders(war, 0, "~ab"), 0);
        Due.is("none stands", war.count(12), 0);
        Due.is("it stands", Due.orders(war, 0, "+ab;~ab"), 2);
        Due.is("ba stands", war.count(12), 2);
        Due.is("ab does not stand any more", Due.orders(war, 0, "~ab"), 0);
        Due.is("ba is turned back", Due.orders(war, 0, "~ba"), 1);
        Due.is("ab stands", war.count(12), 1);
        Due.is("side 1's stays", war.count(13), 1);
    }

    private static void turnedIntoAnother() {
        WordWar war = Due.armed("a,aba,ab,ba,bc,abcdefgh,hgfedcba", "a,aba,ab,ba,bc,abcdefgh", "cb", "");
        Due.is("one letter: the same word", Due.orders(war, 0, "~a"), 0);
        Due.is("backwards the same word", Due.orders(war, 0, "~aba"), 0);
        Due.is("the other one stands", Due.orders(war, 0, "~ab"), 0);
        Due.is("it is a word of the other lexicon alone", Due.orders(war, 0, "~bc"), 0);
        Due.is("all stand as before", war.count(12), 63);
        Due.is("six stand: one of eight letters", Due.orders(war, 0, "~abcdefgh"), 1);
        Due.is("that one stands then", war.count(12), 31 + 64);
        Due.is("nothing goes to the reserve", war.count(14), 0);
        Due.is("it stands no more", Due.orders(war, 0, "-ba;~ab"), 2);
        Due.is("ba stands", war.count(12), 1 + 2 + 8 + 16 + 64);
        Due.is("ba's letters are in the reserve", war.count(14), 2);
    }

    private static void attackersStand() {
        WordWar war = Due.armed("a,b,c", "a", "b,d,a", "b");
        Due.law(war, "f8(1=1)");
        Due.is("the first one does not stand", Due.orders(war, 0, "c>b"), 0);
        Due.is("the first one stands on the other side", Due.orders(war, 0, "b>b"), 0);
        Due.is("the first one is in no lexicon", Due.orders(war, 0, "l>b"), 0);
        Due.is("the second one does not stand", Due.orders(war, 0, "a>d"), 0);
        Due.is("the second one stands on the own side", Due.orders(war, 0, "a>a"), 0);
        Due.is("the second one is in no lexicon", Due.orders(war, 0, "a>l"), 0);
        Due.is("no draw", war.count(3), 1);
        Due.is("both stand", Due.orders(war, 0, "a>b"), 1);
        Due.is("b is gone", war.count(13), 0);
        Due.is("a stands", war.count(12), 1);
        Due.is("b stands no more", Due.orders(war, 0, "a>b"), 0);
        Due.is("one draw", war.count(3), drawn(1, 1));
    }

    private static void changedPlace() {
        WordWar war = Due.armed("a", "", "aaaaaaaa,baaaaaaa,aaaaaaab,ab", "aaaaaaaa");
        Due.reserve(war, 0, "bbbaa");
        Due.is("the first letter", Due.orders(war, 0, "?aaaaaaaa.1b"), 1);
        Due.is("baaaaaaa stands", war.count(13), 2);
        Due.is("back", Due.orders(war, 0, "?baaaaaaa.1a"), 1);
        Due.is("the second one: no such word", Due.orders(war, 0, "?aaaaaaaa.2b"), 0);
        Due.is("the seventh one: no such word", Due.orders(war, 0, "?aaaaaaaa.7b"), 0);
        Due.is("the eighth letter", Due.orders(war, 0, "?aaaaaaaa.8b"), 1);
        Due.is("aaaaaaab stands", war.count(13), 4);
        Due.is("two b and an a have left", war.count(14), 2);
        for (int k = 1; k <= 8; k++) {
            String changed = "aaaaaaaa".substring(0, k - 1) + "l" + "aaaaaaaa".substring(k);
            war = Due.armed("a", "", "aaaaaaaa," + changed, "aaaaaaaa");
            Due.reserve(war, 0, "l");
            Due.is("letter " + k, Due.orders(war, 0, "?aaaaaaaa." + k + "l"), 1);
            Due.is(changed + " stands", war.count(13), 2);
        }
    }

    private static void changedThatStands() {
        WordWar war = Due.armed("ab,aa", "ab", "ab,aa,bb", "bb");
        Due.reserve(war, 0, "aabb");
        Due.reserve(war, 1, "aabb");
        Due.is("it does not stand", Due.orders(war, 0, "?ab.2a"), 0);
        Due.is("it is in no lexicon", Due.orders(war, 0, "?ac.2a"), 0);
        Due.is("it stands on the own side", Due.orders(war, 1, "?bb.1a"), 0);
        Due.is("nothing has left", war.count(14) * 10 + war.count(15), 44);
        Due.is("it stands on the other side", Due.orders(war, 1, "?ab.2a"), 1);
        Due.is("aa stands there", war.count(12), 2);
        Due.is("it stands on the other side", Due.orders(war, 0, "?bb.1a"), 1);
        Due.is("ab stands there", war.count(13), 1);
    }

    private static void spyLeaves() {
        WordWar war = Due.armed("c", "", "a,b", "a");
        Due.reserve(war, 1, "b");
        Due.is("no b", Due.orders(war, 0, "?a.1b"), 0);
        Due.is("a stands", war.count(13), 1);
        war.reserve(0, 1, 1);
        Due.is("one b", Due.orders(war, 0, "?a.1b"), 1);
        Due.is("b stands", war.count(13), 2);
        Due.is("no b is left", war.count(101), 0);
        Due.is("side 1's b stays", war.count(113), 1);
        war.reserve(0, 0, 999);
        Due.is("one of many", Due.orders(war, 0, "?b.1a"), 1);
        Due.is("998 are left", war.count(100), 998);
        Due.is("a spy is not dead himself", war.count(16), 0);
    }

    private static void whatComes() {
        WordWar war = Due.armed("aac", "", "aaa,aab,abb", "aaa,aab");
        Due.reserve(war, 0, "abc");
        Due.is("the same letter: the same word", Due.orders(war, 0, "?aaa.1a"), 0);
        Due.is("it stands already", Due.orders(war, 0, "?aaa.3b"), 0);
        Due.is("it is in the own lexicon alone", Due.orders(war, 0, "?aaa.3c"), 0);
        Due.is("nothing has left", war.count(14), 3);
        Due.is("none has died", war.count(17), 0);
        Due.is("another one", Due.orders(war, 0, "?aab.2b"), 1);
        Due.is("that one stands then", war.count(13), 1 + 4);
        war.reserve(0, 1, 1);
        Due.is("it stands no more", Due.orders(war, 0, "?aaa.3b"), 1);
        Due.is("that one stands then", war.count(13), 2 + 4);
    }

    private static void spyKills() {
        WordWar war = Due.armed("a", "", "abc,abd", "abc");
        Due.reserve(war, 0, "dc");
        Due.is("a spy", Due.orders(war, 0, "?abc.3d"), 1);
        Due.is("the c is there", war.count(144), 1);
        Due.is("no other one", war.count(17), 1);
        Due.is("none of side 0", war.count(16), 0);
        Due.is("no prisoners", war.count(18) + war.count(19), 0);
        Due.is("nor in a reserve", war.count(14) * 10 + war.count(15), 10);
        Due.is("another spy", Due.orders(war, 0, "?abd.3c"), 1);
        Due.is("the d, too", war.count(145), 1);
        Due.is("two", war.count(17), 2);
    }

    // ---- faults

    private static void faults(String text, int due) {
        WordWar war = new WordWar();
        Due.is(text, Due.orders(war, 0, text), due);
        Due.is("judged: " + text, Due.judged(war, 0, text), due);
    }

    private static void cantStandThere() {
        String[] signs = {"`", "m", "A", " ", "\0", "\u00ff", ";", ".", ">", "9"};
        for (String sign : signs) {
            faults(sign, -1000);
            faults("+" + sign, -1001);
            faults("-" + sign, -1001);
            faults("~" + sign, -1001);
            faults("?" + sign, -1001);
            faults("a>" + sign, -1002);
            faults("?a.1" + sign, -1004);
        }
        String[] behind = {"`", "m", " ", "\0", "\u00ff", ",", "9"};
        for (String sign : behind) {
            faults("+a" + sign, -1002);
            faults("a" + sign, -1001);
            faults("a>a" + sign, -1003);
            faults("?a" + sign, -1002);
            faults("?a.1b" + sign, -1005);
            faults("+a;" + sign, -1003);
        }
        faults("+a.1b", -1002);
        faults("+a>a", -1002);
        faults("a>a>a", -1003);
        faults("a;", -1001);
        faults("?a;", -1002);
        faults("?a.1bc", -1005);
        String[] ends = {"+", "-", "~", "?", "a", "a>", "?a", "?a.", "?a.1", "+a;"};
        for (String end : ends) {
            faults(end, -1000 - end.length());
        }
        WordWar war = new WordWar();
        Due.text(war, "a>b");
        Due.is("the end, though the tape goes on", war.orders(0, 2), -1002);
    }

    private static void ninthLetter() {
        String[] heads = {"+", "-", "~", "?", "", "a>"};
        String[] tails = {"", "", "", ".8a", ">a", ""};
        for (int i = 0; i < heads.length; i++) {
            faults(heads[i] + "abcdefgh" + tails[i], 0);
            faults(heads[i] + "abcdefghl" + tails[i], -3008 - heads[i].length());
            faults(heads[i] + "abcdefghlll" + tails[i], -3008 - heads[i].length());
            faults(heads[i] + "abcdefghm" + tails[i], -1008 - heads[i].length());
        }
        faults("+a;+abcdefghi", -3012);
    }

    private static void thirteenthAct() {
        int at = TWELVE_ACTS.length() + 1;
        faults(TWELVE_ACTS, 0);
        String[] can = {"+", "-", "~", "?", "a", "l", "+a", "a>a", "++"};
        for (String sign : can) {
            faults(TWELVE_ACTS + ";" + sign, -4000 - at);
        }
        String[] cannot = {"", "`", "m", ">", ";", ".", "1", " ", "\0", "\u00ff"};
        for (String sign : cannot) {
            faults(TWELVE_ACTS + ";" + sign, -1000 - at);
        }
        WordWar war = new WordWar();
        Due.lexicon(war, 0, "a");
        Due.reserve(war, 0, "a");
        Due.is("nothing is done", Due.orders(war, 0, TWELVE_ACTS + ";+a"), -4000 - at);
        Due.is("a does not stand", war.count(12), 0);
        Due.is("its letter is in the reserve", war.count(14), 1);
    }

    private static void noSuchPlace() {
        for (int size = 1; size <= 8; size++) {
            String word = "?" + "abcdefgh".substring(0, size) + ".";
            for (int k = 0; k <= 9; k++) {
                boolean is = k >= 1 && k <= size;
                faults(word + k + "l", is ? 0 : -6000 - word.length());
            }
            faults(word + "/l", -1000 - word.length());
            faults(word + ":l", -1000 - word.length());
        }
        faults("?a.0", -6003);
        faults("?a.2m", -6003);
        faults("?a.11", -1004);
    }

    private static void firstFromTheLeft() {
        faults("+a;?a.0b;abcdefghi;;", -6006);
        faults("+a;abcdefghi;?a.0b;;", -3011);
        faults("+a;;?a.0b;abcdefghi", -1003);
        faults("?abcdefghi.9a", -3009);
        faults("?a.0b;" + TWELVE_ACTS, -6003);
        faults(TWELVE_ACTS + ";?a.0b", -4040);
        faults(TWELVE_ACTS.substring(0, 37) + "+m;+a", -1038);
    }

    // ---- attacks

    /** Side 0's word attacks side 1's, by a law; the other words of the lexicons don't stand. */
    private static WordWar attack(String law, String one, String two) {
        WordWar war = Due.armed(one, one.split(",")[0], two, two.split(",")[0]);
        Due.is("law " + law, Due.law(war, law) > 0, true);
        Due.is("attack", Due.orders(war, 0, one.split(",")[0] + ">" + two.split(",")[0]), 1);
        return war;
    }

    private static void whoLoses() {
        String[] first = {"b", "b", "b", "ab", "ab", "ab"};
        String[] second = {"c", "b", "a", "abc", "ab", "a"};
        int[] lost = {1, 0, 0, 1, 0, 0};
        for (int i = 0; i < first.length; i++) {
            WordWar war = attack("f8(1=1)", first[i], second[i]);
            String about = first[i] + " attacks " + second[i];
            Due.is(about, war.count(12), lost[i]);
            Due.is(about, war.count(13), 1 - lost[i]);
            Due.is(about, war.count(16), lost[i] == 1 ? 0 : first[i].length());
            Due.is(about, war.count(17), lost[i] == 1 ? second[i].length() : 0);
        }
    }

    private static void byTheEnemysDictionary() {
        WordWar war = Due.armed("a,c", "a,c", "b", "b");
        Due.law(war, "f8(1=1)");
        Due.order(war, 0, "lkjihgfedcba");
        Due.is("a stands ahead of b in side 1's", Due.orders(war, 0, "a>b"), 1);
        Due.is("b has lost", war.count(13), 0);
        Due.form(war, 1, "b");
        Due.is("b stands ahead of a in side 0's", Due.orders(war, 1, "b>a"), 1);
        Due.is("a has lost", war.count(12), 2);
        Due.is("b stands behind c in side 0's", Due.orders(war, 1, "b>c"), 1);
        Due.is("b has lost", war.count(13), 0);
        Due.is("c stands", war.count(12), 2);
    }

    private static void oneDraw() {
        int[] seeds = {0, 1, 2, 3, 4, 5, 6, 7, 8, 9, 65535};
        for (int seed : seeds) {
            WordWar war = Due.armed("a", "a", "bbbbbbbb", "bbbbbbbb");
            Due.law(war, "fr/2(1=1);pr-[r/2](1=1)");
            war.seed(seed);
            Due.is("attack", Due.orders(war, 0, "a>bbbbbbbb"), 1);
            int r = drawn(seed, 1) % 10;
            Due.is("X", war.count(3), drawn(seed, 1));
            Due.is("f by the draw " + r, war.count(143), r / 2);
            Due.is("p by the same one " + r, war.count(173), Math.min(8 - r / 2, r - r / 2));
        }
        WordWar war = attack("v1(1=1)", "a", "b");
        Due.is("with no f and no p, too", war.count(3), drawn(1, 1));
    }

    private static void bothAskedNow() {
        // p is asked ahead of the losses: the word has all its letters and all its strength then.
        WordWar war = attack("f2(1=1);p1(m=3&s=3&n=1&q=1);p2(1=1)", "a", "bbb");
        Due.is("two fell", war.count(143), 2);
        Due.is("one was taken", war.count(173), 1);
        war = attack("f3(1=1);p1(m=4)", "a", "bbbb");
        Due.is("three fell", war.count(143), 3);
        Due.is("one was taken", war.count(173), 1);
    }

    private static void fallen() {
        int[] f = {0, 1, 2, 3, 4, 8};
        for (int n : f) {
            WordWar war = attack("f" + n + "(1=1)", "a", "bcd");
            int fell = Math.min(n, 3);
            Due.is("f " + n, war.count(17), fell);
            Due.is("d fell, f " + n, war.count(145), fell >= 1 ? 1 : 0);
            Due.is("c fell, f " + n, war.count(144), fell >= 2 ? 1 : 0);
            Due.is("b fell, f " + n, war.count(143), fell >= 3 ? 1 : 0);
            Due.is("stands, f " + n, war.count(13), n == 0 ? 1 : 0);
            Due.is("routed, f " + n, war.count(15), n == 0 ? 0 : 3 - fell);
            Due.is("none of side 0, f " + n, war.count(16), 0);
        }
        WordWar war = attack("f7(1=1)", "a", "bbbbbbbb");
        Due.is("seven of eight", war.count(143), 7);
        Due.is("one is routed", war.count(113), 1);
        war = attack("f8(1=1)", "a", "bbbbbbbb");
        Due.is("eight of eight", war.count(143), 8);
        Due.is("none is routed", war.count(15), 0);
    }

    private static void taken() {
        for (int f = 0; f <= 4; f++) {
            for (int p = 0; p <= 4; p++) {
                WordWar war = attack("f" + f + "(1=1);p" + p + "(1=1)", "a", "bcd");
                int fell = Math.min(f, 3);
                int went = Math.min(p, 3 - fell);
                String about = "f " + f + ", p " + p;
                Due.is(about, war.count(17), fell);
                Due.is(about, war.count(19), went);
                Due.is(about + ": d", war.count(175), fell == 0 && went >= 1 ? 1 : 0);
                Due.is(about + ": c", war.count(174), fell <= 1 && fell + went >= 2 ? 1 : 0);
                Due.is(about + ": b", war.count(173), fell <= 2 && fell + went == 3 ? 1 : 0);
                Due.is(about + ": stands", war.count(13), fell + went == 0 ? 1 : 0);
                Due.is(about + ": routed", war.count(15), fell + went == 0 ? 0 : 3 - fell - went);
            }
        }
    }

    private static void restStandsOn() {
        WordWar war = attack("f1(1=1);p1(1=1)", "a", "bcde,bc,bcd,b,c,cd");
        Due.is("bc stands", war.count(13), 2);
        Due.is("nothing is routed", war.count(15), 0);
        war = attack("f1(1=1)", "a", "bcde,bc,bcd");
        Due.is("bcd stands", war.count(13), 4);
        war = attack("f3(1=1)", "a", "bcde,bc,bcd,b");
        Due.is("one letter: b stands", war.count(13), 8);
        war = attack("f1(1=1)", "a,b", "bc,c");
        Due.is("b is a word of the other lexicon alone", war.count(13), 0);
        Due.is("it is routed", war.count(113), 1);
        war = attack("f2(1=1)", "a", "bc,b,c");
        Due.is("none is left: none stands", war.count(13), 0);
        Due.is("none is left: none is routed", war.count(15), 0);
        war = Due.armed("a", "a", "bc,b", "bc,b");
        Due.law(war, "f1(1=1)");
        Due.is("attack", Due.orders(war, 0, "a>bc"), 1);
        Due.is("b stands already", war.count(13), 2);
        Due.is("the other b is routed", war.count(113), 1);
        Due.is("six stand, and one of them shrinks", Due.orders(six(), 0, "a>ha"), 1);
    }

    private static WordWar six() {
        WordWar war = Due.armed("a", "a", "b,c,d,e,f,ha,h", "b,c,d,e,f,ha");
        Due.law(war, "f1(1=1)");
        Due.is("attack", Due.orders(war, 0, "a>ha"), 1);
        Due.is("h stands", war.count(13), 31 + 64);
        Due.is("h is gone", Due.orders(war, 0, "a>h"), 1);
        Due.is("five stand", war.count(13), 31);
        Due.form(war, 1, "ha");
        return war;
    }

    private static void noneWent() {
        WordWar war = attack("f0(1=1);p0(1=1)", "a", "bc,b");
        Due.is("the same stands", war.count(13), 1);
        Due.is("nothing is routed", war.count(15), 0);
        Due.is("none fell", war.count(17), 0);
        Due.is("none was taken", war.count(19), 0);
        Due.is("there was a draw", war.count(3), drawn(1, 1));
        war = attack("f1(1=2)", "c", "b");
        Due.is("no clause holds: side 0's stands", war.count(12), 1);
        Due.is("no clause holds: side 1's stands", war.count(13), 1);
    }

    private static void routed() {
        WordWar war = attack("f1(1=1)", "a", "bbc");
        Due.is("two b", war.count(113), 2);
        Due.is("none stands", war.count(13), 0);
        Due.is("nothing for side 0", war.count(14), 0);
        int[] before = {996, 997, 998, 999};
        for (int n : before) {
            war = Due.armed("a", "a", "bbc", "bbc");
            Due.law(war, "f1(1=1)");
            war.reserve(1, 1, n);
            Due.is("attack", Due.orders(war, 0, "a>bbc"), 1);
            Due.is("two b to " + n, war.count(113), Math.min(999, n + 2));
        }
    }

    // ---- turns

    private static void drawsOfATurn() {
        for (int one = 0; one < 24; one++) {
            // A seed by which the draw of this letter, and of no other one that is there, is 0.
            int seed = 0;
            while (drawn(seed, one + 1) % 10 != 0) {
                seed++;
            }
            WordWar war = new WordWar();
            Due.law(war, "d1(i=" + one / 12 + "&x=" + one % 12 + ")");
            war.reserve(one / 12, one % 12, 1);
            war.seed(seed);
            Due.is("it has draw " + (one + 1), war.turn(), 1);
            Due.is("24 draws", war.count(3), drawn(seed, 24));
            Due.is("it went", war.count(100 + (one + 12) % 24), 1);
        }
        WordWar war = new WordWar();
        Due.order(war, 0, "lkjihgfedcba");
        war.turn();
        Due.is("24 draws without law and letters", war.count(3), drawn(1, 24));
    }

    private static void belowD() {
        for (int draw = 0; draw < 10; draw++) {
            int seed = 0;
            while (drawn(seed, 1) % 10 != draw) {
                seed++;
            }
            for (int d = Math.max(0, draw - 1); d <= draw + 1; d++) {
                WordWar war = new WordWar();
                Due.law(war, "d" + d + "(i=0&x=0)");
                war.reserve(0, 0, 1);
                war.seed(seed);
                Due.is("draw " + draw + ", d " + d, war.turn(), draw < d ? 1 : 0);
                Due.is("draw " + draw + ", d " + d, war.count(112), draw < d ? 1 : 0);
            }
        }
    }

    private static void askedThen() {
        WordWar war = new WordWar();
        Due.law(war, "d10(i=0&h=1);d10(i=1&h=3)");
        war.reserve(0, 0, 1);
        war.reserve(1, 0, 2);
        war.reserve(0, 1, 2);
        war.reserve(1, 1, 3);
        Due.is("a comes to two, and one of the three goes; b alone of side 1", war.turn(), 3);
        Due.is("a is back", war.count(100), 1);
        Due.is("two a", war.count(112), 2);
        Due.is("three b", war.count(101), 3);
        Due.is("two b", war.count(113), 2);
    }

    private static void oneIsThere() {
        int[] n = {0, 1, 2, 999};
        for (int there : n) {
            WordWar war = new WordWar();
            Due.law(war, "d10(i=0)");
            war.reserve(0, 4, there);
            Due.is(there + " are there", war.turn(), there == 0 ? 0 : 1);
            Due.is(there + " were there", war.count(104), Math.max(0, there - 1));
            Due.is("one has come", war.count(116), there == 0 ? 0 : 1);
        }
        WordWar war = new WordWar();
        Due.law(war, "d10(1=1)");
        Due.is("nobody is there", war.turn(), 0);
        war.reserve(0, 3, 1);
        Due.is("he goes over and comes back", war.turn(), 2);
        Due.is("he is there", war.count(103), 1);
        war.reserve(0, 3, 0);
        war.reserve(1, 3, 1);
        Due.is("he goes over once", war.turn(), 1);
        Due.is("he is there", war.count(103), 1);
    }

    private static void oneMore() {
        WordWar war = new WordWar();
        Due.is("at first", war.count(0), 0);
        Due.law(war, "d10(t=0&i=0);vt(1=1)");
        Due.lexicon(war, 0, "a");
        Due.reserve(war, 0, "abc");
        Due.is("worth", war.word(0, 0, 4), 0);
        Due.is("all of the first turn are asked by turn 0", war.turn(), 3);
        Due.is("one more", war.count(0), 1);
        Due.is("worth", war.word(0, 0, 4), 1);
        Due.reserve(war, 0, "abc");
        Due.is("turn 1", war.turn(), 0);
        Due.is("two", war.count(0), 2);
    }

    private static void draws() {
        WordWar war = new WordWar();
        Due.is("X at first", war.count(3), 1);
        int[] seeds = {0, 1, 2, 32767, 32768, 65534, 65535};
        int[] next = {13849, 39022, 64195, 21444, 46617, 29039, 54212};
        for (int i = 0; i < seeds.length; i++) {
            war = Due.armed("a", "a", "a", "a");
            Due.law(war, "f0(1=1)");
            Due.is("seed", war.seed(seeds[i]), true);
            Due.is("X", war.count(3), seeds[i]);
            Due.is("attack", Due.orders(war, 0, "a>a"), 1);
            Due.is("X after " + seeds[i], war.count(3), next[i]);
            war = Due.armed("a", "a", "bbbbbbbb", "bbbbbbbb");
            Due.law(war, "f1(r=" + next[i] % 10 + ")");
            war.seed(seeds[i]);
            Due.orders(war, 0, "a>bbbbbbbb");
            Due.is("X modulo 10 is " + next[i] % 10, war.count(17), 1);
        }
    }

    private static void above999() {
        int[] before = {997, 998, 999};
        for (int n : before) {
            WordWar war = Due.armed("a", "a", "", "");
            war.reserve(0, 0, n);
            Due.is("dissolved", Due.orders(war, 0, "-a"), 1);
            Due.is("dissolved to " + n, war.count(100), Math.min(999, n + 1));
            war = new WordWar();
            Due.law(war, "d10(i=0)");
            war.reserve(0, 0, 5);
            war.reserve(1, 0, n);
            Due.is("a deserter, lost or not", war.turn(), 1);
            Due.is("deserted to " + n, war.count(112), Math.min(999, n + 1));
            Due.is("he has left", war.count(100), 4);
        }
    }
}
