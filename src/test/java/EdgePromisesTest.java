/** The sentences of promises 1 to 34, each at its boundaries. */
public final class EdgePromisesTest {
    private static final String TWELVE = "a,b,c,d,e,f,g,h,i,j,k,l";
    private static final String ORDER = "\0\1\2\3\4\5\6\7\10\11\12\13";

    public static void main(String[] args) throws Exception {
        Edge.begin(args);
        telling();
        texts();
        words();
        exchanges();
        learning();
        keeping();
        Edge.allPromisesAreTested();
        Edge.end();
    }

    private static void telling() {
        Edge.of(1, "`WordWar()`: ORDERS a to l, no LEXICONS, LAW, LETTERS in RESERVES; THE SEED 1.", EdgePromisesTest::newObject);
        Edge.of(2, "STRENGTH of a LETTER: true; false: no such ones.", EdgePromisesTest::strength);
        Edge.of(3, "How many of a LETTER are in a RESERVE: true; false: no such ones.", EdgePromisesTest::reserve);
        Edge.of(4, "Twenty bytes come behind the tape, the highest of each int first: how many it has", EdgePromisesTest::twentyBytes);
        Edge.of(4, "NONE if that would be more than 220.", EdgePromisesTest::feedLimit);
        Edge.of(5, "ORDER of a SIDE by the first 12 bytes of the tape (LETTERS 0 to 11, each once; empty then): true",
                EdgePromisesTest::order);
        Edge.of(5, "false: no such SIDE, it has not so many (the tape stays)", EdgePromisesTest::orderRefused);
        Edge.of(5, "no such LETTER, one twice.", EdgePromisesTest::orderOfWrongLetters);
    }

    private static void texts() {
        Edge.of(6, "LEXICON of a SIDE by the first n bytes of the tape (1 to 160; empty then), in place of the one before: how many WORDS",
                EdgePromisesTest::lexicon);
        Edge.of(6, "a FAULT: -1000 times its number, less its place (the one before stays)", EdgePromisesTest::lexiconFault);
        Edge.of(6, "NONE: no such ones, it has not so many (the tape stays).", EdgePromisesTest::lexiconRefused);
        Edge.of(7, "THE LAW by the first n bytes of the tape (1 to 200; empty then), in place of the one before: how many CLAUSES",
                EdgePromisesTest::law);
        Edge.of(7, "a FAULT: as above (the one before stays)", EdgePromisesTest::lawFault);
        Edge.of(7, "NONE: no such n, it has not so many (the tape stays).", EdgePromisesTest::lawRefused);
        Edge.of(8, "are done, one ACT behind the other, those that can't be are left out: how many were done", EdgePromisesTest::orders);
        Edge.of(8, "a FAULT: as above (nothing is done)", EdgePromisesTest::ordersFault);
        Edge.of(8, "by the first n bytes of the tape (1 to 160; empty then)", EdgePromisesTest::ordersBytes);
        Edge.of(8, "NONE: no such ones, it has not so many (the tape stays).", () -> ordersRefused(false));
        Edge.of(9, "JUDGED (as in orders(); nothing is done): the number of the first ACT that can't be (0 on); how many ACTS: all can",
                EdgePromisesTest::judged);
        Edge.of(9, "a FAULT; NONE: as above.", () -> ordersRefused(true));
        Edge.of(10, "A TURN: how many desert.", EdgePromisesTest::turn);
    }

    private static void words() {
        Edge.of(11, "what 0 its length, 1 STRENGTH, 2 whether it stands (1, 0), 3 whether it could be formed now (1, 0), 4 what it is worth",
                EdgePromisesTest::word);
        Edge.of(11, "10 + k its k-th LETTER (0 on); NONE for others.", EdgePromisesTest::lettersOfWords);
        Edge.of(11, "3 whether it could be formed now (1, 0)", EdgePromisesTest::couldBeFormed);
        Edge.of(12, "and is not BEATEN by it (1), the other way round (-1), both or neither (0)", EdgePromisesTest::beats);
        Edge.of(12, "-2: no such ones.", EdgePromisesTest::beatsRefused);
        Edge.of(13, "The place of WORD w in its own DICTIONARY among its LEXICON (what 0), in the other SIDE's among the same (1): how many stand ahead",
                EdgePromisesTest::place);
        Edge.of(13, "NONE: no such ones.", EdgePromisesTest::placeRefused);
        Edge.of(14, "BEST of a SIDE, what 0 worth, 1 which (bits); NONE: no such ones.", EdgePromisesTest::best);
        Edge.of(15, "AGAINST, what 0 how many are BEATEN, 1 which (bits); NONE: no such ones.", EdgePromisesTest::against);
        Edge.of(16, "AT ONCE, what 0 how many, 1 SIDE 0's WORD, 2 SIDE 1's of the first; -2: none (of 1, 2); NONE: no such what.",
                EdgePromisesTest::atOnce);
    }

    private static void exchanges() {
        Edge.of(17, "what 0 how many, 1 LETTER given, 2 gotten, 3 what both together gain; -2: none (of 1 to 3); NONE: no such ones.",
                EdgePromisesTest::exchange);
        Edge.of(18, "An exchange is made: a SIDE gives a LETTER of its RESERVE for another one of the other SIDE's: true",
                EdgePromisesTest::exchanged);
        Edge.of(18, "false: no such ones, like ones, one is not there.", EdgePromisesTest::exchangedRefused);
        Edge.of(19, "PRISONERS of a LETTER come home, n of both SIDES each: true", EdgePromisesTest::home);
        Edge.of(19, "false: no such ones, not so many (1 at least).", EdgePromisesTest::homeRefused);
        Edge.of(20, "what 20 how many LETTERS, else the LETTER at place what; -2: no such place; NONE: no such ones.",
                EdgePromisesTest::peace);
        Edge.of(21, "BY A SPY from WORD w, as bits (what 0); the most WORDS of the LEXICON that BEAR a slip (1), which (2, bits)",
                EdgePromisesTest::spy);
        Edge.of(21, "(w is not looked at then); NONE: no such ones.", EdgePromisesTest::spyRefused);
    }

    private static void learning() {
        Edge.of(22, "(a WORD, a > and a WORD: the first one stood ahead; n 3 to 17; empty then): how many there are", EdgePromisesTest::fight);
        Edge.of(22, "a FAULT: 1 what can't stand there (the end, too), 3 a ninth LETTER", EdgePromisesTest::fightFaults);
        Edge.of(22, "4 (at 0) 24 are there", EdgePromisesTest::fightsAreThere);
        Edge.of(22, "-5000: nothing is told by it (like ones, or one begins with the other one: it is not taken; asked ahead of 4)",
                EdgePromisesTest::nothingTold);
        Edge.of(22, "NONE: no such n, it has not so many (the tape stays).", EdgePromisesTest::fightRefused);
        Edge.of(23, "LEARNT, what NONE how many ORDERS, else the LETTER at place what of the first one; -2: there is none (of places); -3: no such place.",
                EdgePromisesTest::learnt);
        Edge.of(24, "How many ORDERS that are LEARNT have LETTER a ahead of LETTER b; -1: no such ones, one twice.",
                EdgePromisesTest::ahead);
        Edge.of(25, "The SKIRMISH, what 0 the lower, 1 the higher LETTER, 2 the lesser of both ways; -2: none tells more (0 by all); NONE: no such what.",
                EdgePromisesTest::skirmish);
        Edge.of(26, "No FIGHTS any more: how many there were.", EdgePromisesTest::forget);
        Edge.of(27, "A SOLDIER (in place of the one before): true; false: no such ones.", EdgePromisesTest::soldier);
        Edge.of(28, "what NONE HOURS, else the SOLDIER of its LETTER what; -2: it can't be", EdgePromisesTest::march);
        Edge.of(28, "-3: no such ones, beyond the net, no such LETTER of it.", EdgePromisesTest::marchRefused);
        Edge.of(29, "what NONE how many, -2 how many are alike in a row at most, else the LETTER at place what (0 on); -3: no such ones, no such place.",
                EdgePromisesTest::dead);
    }

    private static void keeping() {
        Edge.of(30, "THE SEED (0 to 65535; X, too): true; false: no such number.", EdgePromisesTest::seed);
        Edge.of(31, "KEPT: LETTERS in both RESERVES.", EdgePromisesTest::keep);
        Edge.of(32, "UNDONE: true; false: none was KEPT.", EdgePromisesTest::undo);
        Edge.of(33, "by the first n numbers of the tape (0 to 12; four bytes each; empty then): NONE: right; else the place of the first number that is not so",
                EdgePromisesTest::check);
        Edge.of(33, "-2: no such ones, it has not so many (the tape stays).", EdgePromisesTest::checkRefused);
        Edge.of(34, "0 THE TURN, 1 CLAUSES, 2 bytes of the tape, 3 X, 4 FIGHTS, 5 told SOLDIERS (how many)", EdgePromisesTest::countAll);
        Edge.of(34, "of SIDE s 10 + s WORDS of its LEXICON, 12 + s its FIELD (bits by its LEXICON), 14 + s LETTERS in its RESERVE, 16 + s in its GRAVE, 18 + s PRISONERS",
                EdgePromisesTest::countOfSides);
        Edge.of(34, "100 + 12 s + x of LETTER x in its RESERVE, 130 + 12 s + x in its GRAVE, 160 + 12 s + x PRISONERS", EdgePromisesTest::countOfLetters);
        Edge.of(34, "190 + 12 s + k the LETTER at place k of its ORDER; 220 + x STRENGTH.", EdgePromisesTest::countOfOrders);
        Edge.of(34, "NONE for others.", EdgePromisesTest::countOthers);
    }

    private static final int[] BEYOND = {Integer.MIN_VALUE, -1000000, -2, -1, 1000000, Integer.MAX_VALUE};

    // ---- promises 1 to 5

    private static void newObject() {
        WordWar war = new WordWar();
        for (int what = 0; what < 232; what++) {
            boolean first = what < 6 || what >= 10 && what < 20;
            boolean held = what >= 100 && what < 124 || what >= 130 && what < 154 || what >= 160 && what < 184;
            boolean order = what >= 190 && what < 214;
            int n = what == 3 || what >= 220 ? 1 : order ? (what - 190) % 12 : 0;
            Due.is("count(" + what + ")", war.count(what), first || held || order || what >= 220 ? n : -1);
        }
        Due.is("no words of side 0", war.word(0, 0, 0), -1);
        Due.is("no words of side 1", war.word(1, 0, 0), -1);
        Due.is("no fights", war.learnt(-1), 479001600L);
        Due.is("no dead", war.dead(0, -1) + war.dead(1, -1), 0);
        Due.is("none kept", war.undo(), false);
        Due.is("two objects have nothing together", war.reserve(0, 0, 5), true);
        Due.is("two objects have nothing together", new WordWar().count(100), 0);
    }

    private static void strength() {
        WordWar war = new WordWar();
        for (int letter = 0; letter < 12; letter++) {
            Due.is("strength", war.strength(letter, 99 - letter), true);
        }
        for (int letter = 0; letter < 12; letter++) {
            Due.is("of " + letter, war.count(220 + letter), 99 - letter);
        }
        Due.is("-1", war.strength(0, -1), false);
        Due.is("100", war.strength(0, 100), false);
        Due.is("letter -1", war.strength(-1, 0), false);
        Due.is("letter 12", war.strength(12, 0), false);
        for (int n : BEYOND) {
            Due.is("letter " + n, war.strength(n, 1), false);
            Due.is("n " + n, war.strength(1, n), false);
        }
        Due.is("a stays", war.count(220), 99);
        Due.is("b stays", war.count(221), 98);
        Due.is("0", war.strength(0, 0), true);
        Due.is("of a", war.count(220), 0);
        Due.is("99", war.strength(0, 99), true);
        Due.is("of a", war.count(220), 99);
    }

    private static void reserve() {
        WordWar war = new WordWar();
        for (int i = 0; i < 24; i++) {
            Due.is("reserve", war.reserve(i / 12, i % 12, 999 - i), true);
        }
        for (int i = 0; i < 24; i++) {
            Due.is("of " + i, war.count(100 + i), 999 - i);
        }
        Due.is("-1", war.reserve(0, 0, -1), false);
        Due.is("1000", war.reserve(0, 0, 1000), false);
        Due.is("side -1", war.reserve(-1, 0, 5), false);
        Due.is("side 2", war.reserve(2, 0, 5), false);
        Due.is("letter -1", war.reserve(0, -1, 5), false);
        Due.is("letter 12", war.reserve(0, 12, 5), false);
        for (int n : BEYOND) {
            Due.is("side " + n, war.reserve(n, 1, 5), false);
            Due.is("letter " + n, war.reserve(1, n, 5), false);
            Due.is("n " + n, war.reserve(1, 1, n), false);
        }
        for (int i = 0; i < 24; i++) {
            Due.is("it stays " + i, war.count(100 + i), 999 - i);
        }
        Due.is("0", war.reserve(1, 11, 0), true);
        Due.is("of side 1's l", war.count(123), 0);
        Due.is("999", war.reserve(1, 11, 999), true);
        Due.is("of side 1's l", war.count(123), 999);
    }

    private static void twentyBytes() {
        WordWar war = new WordWar();
        Due.is("twenty", war.feed(0x61626364, 0x65666768, 0x2c696a6b, 0x6c6b6a69, 0x2c6c0000), 20);
        Due.is("forty", war.feed(0x6c6c6c6c, 0, 0, 0, 0), 40);
        Due.is("18 of them", war.lexicon(0, 18), 3);
        String[] words = {"abcdefgh", "ijklkji", "l"};
        for (int w = 0; w < 3; w++) {
            Due.is("length", war.word(0, w, 0), words[w].length());
            for (int k = 0; k < words[w].length(); k++) {
                Due.is("letter", war.word(0, w, 10 + k), words[w].charAt(k) - 'a');
            }
        }
        Due.is("empty then", war.count(2), 0);
        war.feed(0x61626364, 0x65666768, 0x2c696a6b, 0x6c6b6a69, 0x2c6c0000);
        war.feed(0x6c6c6c6c, 0, 0, 0, 0);
        Due.is("behind the first twenty: the 19th byte is 0", war.lexicon(0, 21), -1018);
        war.feed(0x2c2c2c61, 0xff000000, 0, 0, 0);
        Due.is("the highest byte first", war.lexicon(0, 4), -1000);
        war.feed(0x61ff0000, 0, 0, 0, 0);
        Due.is("a byte of 255", war.lexicon(0, 2), -1001);
    }

    private static void feedLimit() {
        WordWar war = new WordWar();
        for (int i = 1; i <= 10; i++) {
            Due.is("feed " + i, war.feed(0, 0, 0, 0, 0), 20 * i);
        }
        Due.is("220", war.feed(0x61616161, 0, 0, 0, 0), 220);
        Due.is("more than 220", war.feed(0, 0, 0, 0, 0), -1);
        Due.is("it stays", war.count(2), 220);
        Due.is("again", war.feed(0, 0, 0, 0, 0), -1);
        Due.is("all are right", war.check(0, 12), -1);
        Due.is("empty then", war.count(2), 0);
        Due.is("twenty again", war.feed(0, 0, 0, 0, 0), 20);
    }

    private static void order() {
        WordWar war = new WordWar();
        Due.text(war, "\13\12\11\10\7\6\5\4\3\2\1\0");
        Due.is("l to a", war.order(0), true);
        Due.is("empty then", war.count(2), 0);
        for (int k = 0; k < 12; k++) {
            Due.is("side 0, place " + k, war.count(190 + k), 11 - k);
            Due.is("side 1, place " + k, war.count(202 + k), k);
        }
        Due.text(war, ORDER + "\0\0\0\0\0\0\0\0" + "\1");
        Due.is("forty bytes: the first twelve", war.order(1), true);
        Due.is("empty then", war.count(2), 0);
        Due.is("side 1, place 11", war.count(213), 11);
        Due.text(war, "\1\0\2\3\4\5\6\7\10\11\13\12");
        Due.is("two twos", war.order(1), true);
        int[] due = {1, 0, 2, 3, 4, 5, 6, 7, 8, 9, 11, 10};
        for (int k = 0; k < 12; k++) {
            Due.is("place " + k, war.count(202 + k), due[k]);
        }
    }

    private static void orderRefused() {
        WordWar war = new WordWar();
        Due.is("no bytes", war.order(0), false);
        Due.text(war, ORDER);
        int[] sides = {-1, 2, Integer.MIN_VALUE, Integer.MAX_VALUE};
        for (int side : sides) {
            Due.is("side " + side, war.order(side), false);
            Due.is("the tape stays", war.count(2), 20);
        }
        Due.is("side 1", war.order(1), true);
        Due.is("no bytes any more", war.order(1), false);
        Due.is("nor for side 2", war.order(2), false);
    }

    private static void orderOfWrongLetters() {
        for (int at = 0; at < 12; at++) {
            for (int wrong : new int[] {12, 255, 'a', (at + 1) % 12, (at + 11) % 12}) {
                WordWar war = new WordWar();
                StringBuilder bytes = new StringBuilder(ORDER);
                bytes.setCharAt(at, (char) wrong);
                Due.text(war, bytes.toString());
                Due.is(wrong + " at " + at, war.order(0), false);
                Due.is("place " + at + " stays", war.count(190 + at), at);
                Due.is("place 11 stays", war.count(201), 11);
                Due.is("the tape is empty", war.count(2), 0);
            }
        }
    }

    // ---- promises 6 to 10

    private static void lexicon() {
        WordWar war = new WordWar();
        Due.text(war, "a,b" + "c".repeat(200));
        Due.is("1 byte", war.lexicon(1, 1), 1);
        Due.is("empty then, whatever was behind", war.count(2), 0);
        Due.text(war, "a,b");
        Due.is("3 bytes", war.lexicon(1, 3), 2);
        Due.is("b", war.word(1, 1, 10), 1);
        Due.text(war, "l");
        Due.is("in place of the one before", war.lexicon(1, 1), 1);
        Due.is("l", war.word(1, 0, 10), 11);
        Due.is("no second word", war.word(1, 1, 0), -1);
        Due.is("count", war.count(11), 1);
        Due.is("side 0 has none", war.count(10), 0);
        Due.text(war, "a".repeat(160));
        Due.is("160 bytes", war.lexicon(1, 160), -3008);
    }

    private static void lexiconFault() {
        WordWar war = Due.armed("ab,c", "ab", "", "");
        String[] texts = {"m", "a,", "abcdefghi", TWELVE + ",a", "a,a", "a,b,c,d,e,f,g,h,i,j,abcdefgh,aa,?"};
        int[] due = {-1000, -1002, -3008, -4024, -6002, -1032};
        for (int i = 0; i < texts.length; i++) {
            Due.is(texts[i], Due.lexicon(war, 0, texts[i]), due[i]);
            Due.is("the tape is empty", war.count(2), 0);
            Due.is("two words", war.count(10), 2);
            Due.is("ab", war.word(0, 0, 11), 1);
            Due.is("c", war.word(0, 1, 10), 2);
            Due.is("ab stands", war.count(12), 1);
            Due.is("the reserve is empty", war.count(14), 0);
        }
    }

    private static void lexiconRefused() {
        WordWar war = new WordWar();
        Due.text(war, "a".repeat(180));
        int[] sides = {-1, 2, Integer.MIN_VALUE, Integer.MAX_VALUE};
        for (int side : sides) {
            Due.is("side " + side, war.lexicon(side, 1), -1);
        }
        int[] n = {0, -1, 161, 180, Integer.MIN_VALUE, Integer.MAX_VALUE};
        for (int one : n) {
            Due.is("n " + one, war.lexicon(0, one), -1);
        }
        Due.is("the tape stays", war.count(2), 180);
        Due.is("1 byte", war.lexicon(0, 1), 1);
        Due.is("no bytes", war.lexicon(0, 1), -1);
        Due.text(war, "a,b");
        Due.is("21 of 20", war.lexicon(0, 21), -1);
        Due.is("the tape stays", war.count(2), 20);
        Due.is("20 of 20", war.lexicon(0, 20), -1003);
        Due.is("empty then", war.count(2), 0);
        Due.is("the one before stays", war.count(10), 1);
    }

    private static void law() {
        WordWar war = new WordWar();
        Due.lexicon(war, 0, "a");
        Due.is("one", Due.law(war, "v1(1=1)"), 1);
        Due.is("worth", war.word(0, 0, 4), 1);
        Due.text(war, "v2(1=1);v3(1=1)" + "z".repeat(200));
        Due.is("7 of 220 bytes", war.law(7), 1);
        Due.is("empty then", war.count(2), 0);
        Due.is("in place of the one before", war.word(0, 0, 4), 2);
        Due.is("two", Due.law(war, "p1(1=1);d3(1=1)"), 2);
        Due.is("clauses", war.count(1), 2);
        Due.is("no v any more", war.word(0, 0, 4), 0);
        Due.is("one again", Due.law(war, "v4(1=1)"), 1);
        Due.is("clauses", war.count(1), 1);
        Due.is("worth", war.word(0, 0, 4), 4);
        for (int i = 0; i < 3; i++) {
            Due.is("fourteen", Due.law(war, "v1(1=1);".repeat(13) + "v1(1=1)"), 14);
            Due.is("two without v", Due.law(war, "p1(1=1);d3(1=1)"), 2);
            Due.is("none of those before", war.word(0, 0, 4), 0);
            Due.is("one without v", Due.law(war, i == 0 ? "w1(1=1)" : "w1+1+1+1+1+1+1+1+1+1(1=1)"), 1);
            Due.is("none of those before", war.word(0, 0, 4), 0);
        }
        for (int i = 0; i < 9; i++) {
            Due.is("200 bytes", Due.law(war, "v" + "1+".repeat(96) + "1" + i + "(1=1)"), 1);
            Due.is("worth", war.word(0, 0, 4), 106 + i);
        }
    }

    private static void lawFault() {
        WordWar war = new WordWar();
        Due.lexicon(war, 0, "a");
        Due.law(war, "v7(1=1);w1(1=1)");
        String[] texts = {"v", "v1(1=1);", "v1(1=1);v123456(1=1)", "f1(1=1);".repeat(14) + "v", "v[[[[[[[", "x"};
        int[] due = {-1001, -1008, -2014, -4112, -5007, -1000};
        for (int i = 0; i < texts.length; i++) {
            Due.is(texts[i], Due.law(war, texts[i]), due[i]);
            Due.is("the tape is empty", war.count(2), 0);
            Due.is("two clauses stay", war.count(1), 2);
            Due.is("they are asked", war.word(0, 0, 4), 7);
        }
    }

    private static void lawRefused() {
        WordWar war = new WordWar();
        Due.text(war, "v1(1=1)" + "a".repeat(213));
        int[] n = {0, -1, 201, 220, 221, Integer.MIN_VALUE, Integer.MAX_VALUE};
        for (int one : n) {
            Due.is("n " + one, war.law(one), -1);
        }
        Due.is("the tape stays", war.count(2), 220);
        Due.is("200 bytes", war.law(200), -1007);
        Due.is("no bytes", war.law(1), -1);
        Due.text(war, "v1(1=1)");
        Due.is("21 of 20", war.law(21), -1);
        Due.is("the tape stays", war.count(2), 20);
        Due.is("7 bytes", war.law(7), 1);
    }

    private static void orders() {
        WordWar war = Due.armed("a,b,c", "", "", "");
        Due.reserve(war, 0, "ab");
        Due.is("none can be", Due.orders(war, 0, "-a"), 0);
        Due.is("none of three", Due.orders(war, 0, "-a;+c;~b"), 0);
        Due.is("the first and the last", Due.orders(war, 0, "+a;+c;+b"), 2);
        Due.is("a and b stand", war.count(12), 3);
        Due.is("the middle one", Due.orders(war, 0, "+a;-b;+c"), 1);
        Due.is("a stands", war.count(12), 1);
        Due.is("one behind the other: it stands then", Due.orders(war, 0, "+b;-b;+b;-b;+b"), 5);
        Due.is("a and b stand", war.count(12), 3);
        Due.is("one that can be only behind another one", Due.orders(war, 0, "-a;-a;+a"), 2);
    }

    private static void ordersFault() {
        WordWar war = Due.armed("a", "", "", "");
        Due.reserve(war, 0, "a");
        String[] texts = {"+a;", "+a;+abcdefghi", "+a;" + "-a;".repeat(11) + "+", "+a;?a.2b", "+a;x"};
        int[] due = {-1003, -3012, -4036, -6006, -1003};
        for (int i = 0; i < texts.length; i++) {
            Due.is(texts[i], Due.orders(war, 0, texts[i]), due[i]);
            Due.is("the tape is empty", war.count(2), 0);
            Due.is("none stands", war.count(12), 0);
            Due.is("a is in the reserve", war.count(100), 1);
            Due.is("no draw", war.count(3), 1);
        }
    }

    private static void ordersBytes() {
        WordWar war = Due.armed("a,aa", "", "", "");
        Due.reserve(war, 0, "aaa");
        Due.text(war, "+aa;+a");
        Due.is("2 bytes: +a", war.orders(0, 2), 1);
        Due.is("empty then", war.count(2), 0);
        Due.is("a stands", war.count(12), 1);
        Due.text(war, "+aa;+a");
        Due.is("3 bytes: +aa", war.orders(0, 3), 1);
        Due.is("both stand", war.count(12), 3);
        Due.text(war, "+aa;+a");
        Due.is("1 byte", war.orders(0, 1), -1001);
    }

    private static int give(WordWar war, boolean judged, int side, int n) {
        return judged ? war.judged(side, n) : war.orders(side, n);
    }

    private static void ordersRefused(boolean judged) {
        WordWar war = new WordWar();
        Due.text(war, "-a".repeat(110));
        int[] sides = {-1, 2, Integer.MIN_VALUE, Integer.MAX_VALUE};
        for (int side : sides) {
            Due.is("side " + side, give(war, judged, side, 2), -1);
        }
        int[] n = {0, -1, 161, 220, 221, Integer.MIN_VALUE, Integer.MAX_VALUE};
        for (int one : n) {
            Due.is("n " + one, give(war, judged, 0, one), -1);
        }
        Due.is("the tape stays", war.count(2), 220);
        Due.is("160 bytes", give(war, judged, 0, 160), -1002);
        Due.is("empty then, with a fault", war.count(2), 0);
        Due.is("no bytes", give(war, judged, 0, 1), -1);
        Due.text(war, "-a");
        Due.is("21 of 20", give(war, judged, 0, 21), -1);
        Due.is("the tape stays", war.count(2), 20);
        Due.is("2 bytes", give(war, judged, 1, 2), 0);
        Due.is("empty then", war.count(2), 0);
    }

    private static void judged() {
        WordWar war = Due.armed("a,b", "a", "b", "b");
        Due.law(war, "f8(1=1)");
        Due.reserve(war, 0, "b");
        Due.is("the first", Due.judged(war, 0, "-b;+b"), 0);
        Due.is("the second", Due.judged(war, 0, "+b;+b;-b"), 1);
        Due.is("the third", Due.judged(war, 0, "-a;+b;a>b"), 2);
        Due.is("all three", Due.judged(war, 0, "a>b;+b;-a"), 3);
        Due.is("all of one", Due.judged(war, 0, "a>b"), 1);
        String before = Due.state(war);
        Due.is("all of two", Due.judged(war, 0, "+b;a>b"), 2);
        Due.is("empty then", war.count(2), 0);
        Due.same("nothing is done", Due.state(war), before);
        Due.is("done", Due.orders(war, 0, "+b;a>b"), 2);
    }

    private static void turn() {
        WordWar war = new WordWar();
        Due.is("none", war.turn(), 0);
        Due.law(war, "d10(1=1)");
        for (int letter = 0; letter < 12; letter++) {
            war.reserve(0, letter, 999);
            war.reserve(1, letter, 999);
        }
        Due.is("all", war.turn(), 24);
        Due.is("two turns", war.count(0), 2);
        Due.is("998 and one more", war.count(14), 12 * 999);
        Due.is("one was lost, and one has gone", war.count(15), 12 * 998);
        Due.law(war, "d0(1=1)");
        Due.is("none", war.turn(), 0);
    }

    // ---- promises 11 to 16

    private static void word() {
        WordWar war = Due.armed("abcdefgh,l", "l", "a", "");
        war.strength(0, 0);
        war.strength(7, 99);
        Due.law(war, "vm(i=0);v9999(1=1)");
        Due.is("length", war.word(0, 0, 0), 8);
        Due.is("strength", war.word(0, 0, 1), 99 + 6);
        Due.is("it does not stand", war.word(0, 0, 2), 0);
        Due.is("it could not be formed", war.word(0, 0, 3), 0);
        Due.is("worth", war.word(0, 0, 4), 8);
        Due.is("length 1", war.word(0, 1, 0), 1);
        Due.is("strength 1", war.word(0, 1, 1), 1);
        Due.is("it stands", war.word(0, 1, 2), 1);
        Due.is("it could not be formed again", war.word(0, 1, 3), 0);
        Due.is("worth 1", war.word(0, 1, 4), 1);
        Due.is("strength 0", war.word(1, 0, 1), 0);
        Due.is("worth 9999", war.word(1, 0, 4), 9999);
        Due.reserve(war, 0, "abcdefghl");
        Due.is("it could be formed", war.word(0, 0, 3), 1);
        Due.is("it stands already", war.word(0, 1, 3), 0);
        Due.is("nothing is formed", war.count(12), 2);
    }

    private static void lettersOfWords() {
        WordWar war = Due.armed("l,abcdefgh", "", "", "");
        Due.is("l", war.word(0, 0, 10), 11);
        Due.is("no second letter", war.word(0, 0, 11), -1);
        for (int k = 0; k < 8; k++) {
            Due.is("letter " + k, war.word(0, 1, 10 + k), k);
        }
        int[] others = {5, 6, 7, 8, 9, 18, 19, 26, 42, 1000};
        for (int what : others) {
            Due.is("what " + what, war.word(0, 1, what), -1);
        }
        for (int n : BEYOND) {
            Due.is("what " + n, war.word(0, 1, n), -1);
            Due.is("w " + n, war.word(0, n, 0), -1);
            Due.is("side " + n, war.word(n, 0, 0), -1);
        }
        Due.is("w 2", war.word(0, 2, 0), -1);
        Due.is("side 2", war.word(2, 0, 0), -1);
        Due.is("side 1 has none", war.word(1, 0, 0), -1);
        Due.lexicon(war, 0, TWELVE);
        Due.is("w 11", war.word(0, 11, 10), 11);
        Due.is("w 12", war.word(0, 12, 10), -1);
        Due.is("w 12", war.word(0, 12, 0), -1);
    }

    private static void couldBeFormed() {
        WordWar war = Due.armed("aab,c,d,e,f,g,h", "c,d,e,f", "", "");
        String[] reserves = {"", "ab", "aa", "aab", "aaabbb"};
        for (int i = 0; i < reserves.length; i++) {
            Due.reserve(war, 0, reserves[i]);
            Due.is("of " + reserves[i], war.word(0, 0, 3), i < 3 ? 0 : 1);
        }
        Due.reserve(war, 0, "aabgh");
        Due.is("five stand", Due.orders(war, 0, "+g"), 1);
        Due.is("a sixth one", war.word(0, 0, 3), 1);
        Due.is("six stand", Due.orders(war, 0, "+h"), 1);
        Due.is("no seventh one", war.word(0, 0, 3), 0);
    }

    private static void beats() {
        WordWar war = Due.armed("a,b,c", "", "b", "");
        int[][] due = {{1, 0, -1}, {0, 0, -1}, {0, 0, -1}, {-1, 0, 1}, {-1, 0, 0}};
        String[] order0 = {"abcdefghijkl", "abcdefghijkl", "bacdefghijkl", "cbadefghijkl", "cbadefghijkl"};
        String[] order1 = {"abcdefghijkl", "bacdefghijkl", "abcdefghijkl", "cbadefghijkl", "bcadefghijkl"};
        for (int i = 0; i < due.length; i++) {
            Due.order(war, 0, order0[i]);
            Due.order(war, 1, order1[i]);
            for (int w = 0; w < 3; w++) {
                Due.is(order0[i] + ", " + order1[i] + ": " + w, war.beats(w, 0), due[i][w]);
            }
        }
    }

    private static void beatsRefused() {
        WordWar war = new WordWar();
        Due.is("no words", war.beats(0, 0), -2);
        Due.lexicon(war, 0, TWELVE);
        Due.is("no word of side 1", war.beats(0, 0), -2);
        Due.lexicon(war, 1, "a,b");
        Due.is("the last ones", war.beats(11, 1), -1);
        Due.is("w 12", war.beats(12, 1), -2);
        Due.is("v 2", war.beats(11, 2), -2);
        for (int n : BEYOND) {
            Due.is("w " + n, war.beats(n, 0), -2);
            Due.is("v " + n, war.beats(0, n), -2);
        }
    }

    private static void place() {
        WordWar war = new WordWar();
        Due.lexicon(war, 1, "l");
        Due.is("alone", war.place(1, 0, 0), 0);
        Due.is("alone", war.place(1, 0, 1), 0);
        Due.lexicon(war, 1, "l,k,j,i,h,g,f,e,d,c,b,a");
        Due.order(war, 0, "lkjihgfedcba");
        for (int w = 0; w < 12; w++) {
            Due.is("in its own", war.place(1, w, 0), 11 - w);
            Due.is("in the other one's", war.place(1, w, 1), w);
        }
        Due.lexicon(war, 0, "a,b");
        Due.is("the same lexicon, not the other one's", war.place(1, 11, 1), 11);
    }

    private static void placeRefused() {
        WordWar war = new WordWar();
        Due.is("no words", war.place(0, 0, 0), -1);
        Due.lexicon(war, 0, "a,b");
        Due.is("w 1", war.place(0, 1, 1), 1);
        Due.is("w 2", war.place(0, 2, 1), -1);
        Due.is("what 2", war.place(0, 1, 2), -1);
        Due.is("side 2", war.place(2, 0, 0), -1);
        Due.is("side 1 has none", war.place(1, 0, 0), -1);
        for (int n : BEYOND) {
            Due.is("side " + n, war.place(n, 0, 0), -1);
            Due.is("w " + n, war.place(0, n, 0), -1);
            Due.is("what " + n, war.place(0, 0, n), -1);
        }
    }

    private static void best() {
        WordWar war = Due.armed("a,b", "", "a,b", "");
        Due.law(war, "v2(i=0);v3(1=1)");
        Due.reserve(war, 0, "b");
        Due.reserve(war, 1, "ab");
        Due.is("side 0, worth", war.best(0, 0), 2);
        Due.is("side 0, which", war.best(0, 1), 2);
        Due.is("side 1, worth", war.best(1, 0), 6);
        Due.is("side 1, which", war.best(1, 1), 3);
        Due.is("what 2", war.best(0, 2), -1);
        Due.is("side 2", war.best(2, 0), -1);
        for (int n : BEYOND) {
            Due.is("side " + n, war.best(n, 0), -1);
            Due.is("what " + n, war.best(0, n), -1);
        }
        Due.is("no words", new WordWar().best(0, 0), 0);
        Due.is("no words", new WordWar().best(1, 1), 0);
    }

    private static void against() {
        WordWar war = Due.armed("c,b", "c", "a,d", "a,d");
        Due.reserve(war, 0, "b");
        Due.is("side 0 beats", war.against(0, 0), 1);
        Due.is("by b", war.against(0, 1), 2);
        Due.is("side 1 can form none", war.against(1, 0), 0);
        Due.is("none", war.against(1, 1), 0);
        Due.is("a is dissolved", Due.orders(war, 1, "-a"), 1);
        Due.is("side 1 beats c", war.against(1, 0), 1);
        Due.is("by a", war.against(1, 1), 1);
        Due.is("what 2", war.against(0, 2), -1);
        Due.is("side 2", war.against(2, 0), -1);
        for (int n : BEYOND) {
            Due.is("side " + n, war.against(n, 0), -1);
            Due.is("what " + n, war.against(0, n), -1);
        }
    }

    private static void atOnce() {
        WordWar war = Due.armed("c,b", "", "d,a", "");
        Due.law(war, "v1(1=1)");
        Due.is("how many", war.atOnce(0), 0);
        Due.is("none of 1", war.atOnce(1), -2);
        Due.is("none of 2", war.atOnce(2), -2);
        Due.reserve(war, 0, "bc");
        Due.reserve(war, 1, "ad");
        Due.is("how many", war.atOnce(0), 2);
        Due.is("side 0's", war.atOnce(1), 0);
        Due.is("side 1's", war.atOnce(2), 1);
        Due.is("what 3", war.atOnce(3), -1);
        for (int n : BEYOND) {
            Due.is("what " + n, war.atOnce(n), -1);
        }
        Due.is("nothing is formed", war.count(12) + war.count(13), 0);
    }

    // ---- promises 17 to 21

    private static void exchange() {
        WordWar war = Due.armed("l", "", "a", "");
        Due.law(war, "v5(i=0);v7(1=1)");
        for (int what = 0; what < 4; what++) {
            Due.is("none, what " + what, war.exchange(0, what), what == 0 ? 0 : -2);
        }
        Due.reserve(war, 0, "a");
        Due.reserve(war, 1, "l");
        int[] due0 = {1, 0, 11, 12};
        int[] due1 = {1, 11, 0, 12};
        for (int what = 0; what < 4; what++) {
            Due.is("side 0, what " + what, war.exchange(0, what), due0[what]);
            Due.is("side 1, what " + what, war.exchange(1, what), due1[what]);
        }
        Due.is("what 4", war.exchange(0, 4), -1);
        Due.is("side 2", war.exchange(2, 0), -1);
        for (int n : BEYOND) {
            Due.is("side " + n, war.exchange(n, 0), -1);
            Due.is("what " + n, war.exchange(0, n), -1);
        }
        Due.is("nothing is given", war.count(100) * 10 + war.count(123), 11);
    }

    private static void exchanged() {
        WordWar war = new WordWar();
        war.reserve(0, 0, 1);
        war.reserve(1, 11, 1);
        Due.is("a for l", war.exchanged(0, 0, 11), true);
        Due.is("no a", war.count(100), 0);
        Due.is("an l", war.count(111), 1);
        Due.is("an a there", war.count(112), 1);
        Due.is("no l there", war.count(123), 0);
        Due.is("back, asked by side 1", war.exchanged(1, 0, 11), true);
        Due.is("as before", war.count(100) * 10 + war.count(123), 11);
        for (int n = 997; n <= 999; n++) {
            war.reserve(0, 0, 999);
            war.reserve(0, 11, n);
            war.reserve(1, 11, 999);
            war.reserve(1, 0, n);
            Due.is("a for l", war.exchanged(0, 0, 11), true);
            Due.is("a is given", war.count(100), 998);
            Due.is("l comes to " + n, war.count(111), Math.min(999, n + 1));
            Due.is("a comes to " + n, war.count(112), Math.min(999, n + 1));
            Due.is("l is given", war.count(123), 998);
        }
    }

    private static void exchangedRefused() {
        WordWar war = new WordWar();
        war.reserve(0, 0, 1);
        war.reserve(1, 1, 1);
        war.reserve(0, 3, 1);
        war.reserve(1, 3, 1);
        Due.is("like ones", war.exchanged(0, 3, 3), false);
        Due.is("no c is there", war.exchanged(0, 2, 1), false);
        Due.is("no c is there", war.exchanged(0, 0, 2), false);
        Due.is("they are the other one's", war.exchanged(0, 1, 0), false);
        Due.is("side 2", war.exchanged(2, 0, 1), false);
        Due.is("letter 12", war.exchanged(0, 12, 1), false);
        Due.is("letter 12", war.exchanged(0, 0, 12), false);
        for (int n : BEYOND) {
            Due.is("side " + n, war.exchanged(n, 0, 1), false);
            Due.is("given " + n, war.exchanged(0, n, 1), false);
            Due.is("gotten " + n, war.exchanged(0, 0, n), false);
        }
        Due.is("nothing is given", war.count(14) * 10 + war.count(15), 22);
        Due.is("they are there", war.exchanged(0, 0, 1), true);
        Due.is("not any more", war.exchanged(0, 0, 1), false);
    }

    /** Side 0 has lost four k and an l, side 1 three k and a j to the other one; the reserves are empty. */
    private static WordWar prisoners() {
        WordWar war = Due.armed("a,kkkk,l", "a,kkkk,l", "a,kkk,j", "a,kkk,j");
        Due.law(war, "p8(1=1)");
        Due.is("side 1 loses", Due.orders(war, 0, "a>kkk;a>j"), 2);
        Due.is("side 0 loses", Due.orders(war, 1, "a>kkkk;a>l"), 2);
        Due.is("k taken", war.count(170) * 10 + war.count(182), 43);
        Due.is("l and j taken", war.count(171) * 10 + war.count(181), 11);
        return war;
    }

    private static void home() {
        WordWar war = prisoners();
        Due.is("1", war.home(10, 1), true);
        Due.is("three and two are left", war.count(170) * 10 + war.count(182), 32);
        Due.is("one is home", war.count(110) * 10 + war.count(122), 11);
        Due.is("l and j are not", war.count(171) * 10 + war.count(181), 11);
        Due.is("3", war.home(10, 3), false);
        Due.is("2", war.home(10, 2), true);
        Due.is("one of side 0 is left", war.count(170) * 10 + war.count(182), 10);
        Due.is("three are home", war.count(110) * 10 + war.count(122), 33);
        Due.is("none of side 1 any more", war.home(10, 1), false);
        war = prisoners();
        war.reserve(0, 10, 996);
        war.reserve(1, 10, 997);
        Due.is("3", war.home(10, 3), true);
        Due.is("996 and 3", war.count(110), 999);
        Due.is("997 and 3: one is lost", war.count(122), 999);
        Due.is("one of side 0 is left", war.count(170) * 10 + war.count(182), 10);
        Due.is("none is dead", war.count(16) + war.count(17), 0);
        // a is the first letter, l the last one.
        war = Due.armed("a,l", "a,l", "a,l", "a,l");
        Due.law(war, "p8(1=1)");
        Due.is("l of side 1, l of side 0", Due.orders(war, 0, "a>l;l>a"), 2);
        Due.is("a of side 0", Due.orders(war, 1, "a>a;l>a"), 1);
        Due.is("l", war.home(11, 1), true);
        Due.is("l is home", war.count(111) * 10 + war.count(123), 11);
        Due.is("a of side 1 alone", war.home(0, 1), false);
    }

    private static void homeRefused() {
        WordWar war = prisoners();
        String before = Due.state(war);
        Due.is("0", war.home(10, 0), false);
        Due.is("-1", war.home(10, -1), false);
        Due.is("4: side 1 has three", war.home(10, 4), false);
        Due.is("5", war.home(10, 5), false);
        Due.is("j of side 1 alone", war.home(9, 1), false);
        Due.is("l of side 0 alone", war.home(11, 1), false);
        Due.is("no c", war.home(2, 1), false);
        Due.is("letter 12", war.home(12, 1), false);
        for (int n : BEYOND) {
            Due.is("letter " + n, war.home(n, 1), false);
            Due.is("n " + n, war.home(10, n), false);
        }
        Due.same("nothing has changed", Due.state(war), before);
        Due.is("3", war.home(10, 3), true);
    }

    private static void peace() {
        WordWar war = Due.armed("a,abcdefgh", "", "a,l,iiiijjjj", "");
        Due.is("one letter", war.peace(0, 0, 20), 1);
        Due.is("a", war.peace(0, 0, 0), 0);
        Due.is("behind it", war.peace(0, 0, 1), -2);
        Due.is("two letters", war.peace(0, 1, 20), 2);
        Due.is("l", war.peace(0, 1, 1), 11);
        Due.is("behind it", war.peace(0, 1, 2), -2);
        Due.is("sixteen letters", war.peace(1, 2, 20), 16);
        Due.is("the last one", war.peace(1, 2, 15), 9);
        for (int what = 16; what < 24; what++) {
            Due.is("place " + what, war.peace(1, 2, what), what == 20 ? 16 : -2);
        }
        Due.is("w 2", war.peace(2, 0, 20), -1);
        Due.is("v 3", war.peace(0, 3, 20), -1);
        for (int n : BEYOND) {
            Due.is("place " + n, war.peace(0, 0, n), -2);
            Due.is("w " + n, war.peace(n, 0, 20), -1);
            Due.is("v " + n, war.peace(0, n, 0), -1);
            Due.is("w and place " + n, war.peace(n, 0, n), -1);
        }
    }

    private static void spy() {
        WordWar war = Due.armed("aaa,aab,bbb,l", "", "abc,abd,aba", "");
        Due.is("from aaa", war.spy(0, 0, 0), 2);
        Due.is("from bbb", war.spy(0, 2, 0), 0);
        Due.is("from l", war.spy(0, 3, 0), 0);
        Due.is("the most", war.spy(0, 0, 1), 3);
        Due.is("which", war.spy(0, 0, 2), 1 + 4 + 8);
        Due.is("side 1, from abc", war.spy(1, 0, 0), 6);
        Due.is("side 1, the most", war.spy(1, 0, 1), 1);
        Due.is("side 1, which", war.spy(1, 0, 2), 1);
    }

    private static void spyRefused() {
        WordWar war = Due.armed("a,b", "", "", "");
        Due.is("w 1", war.spy(0, 1, 0), 1);
        Due.is("w 2", war.spy(0, 2, 0), -1);
        Due.is("w 2 is not looked at", war.spy(0, 2, 1), 1);
        Due.is("w 2 is not looked at", war.spy(0, 2, 2), 1);
        Due.is("what 3", war.spy(0, 0, 3), -1);
        Due.is("side 2", war.spy(2, 0, 0), -1);
        for (int n : BEYOND) {
            Due.is("w " + n, war.spy(0, n, 0), -1);
            Due.is("w " + n + " is not looked at", war.spy(0, n, 1), 1);
            Due.is("w " + n + " is not looked at", war.spy(0, n, 2), 1);
            Due.is("what " + n, war.spy(0, 0, n), -1);
            Due.is("side " + n, war.spy(n, 0, 1), -1);
            Due.is("side " + n, war.spy(n, 0, 2), -1);
        }
        Due.is("side 1 has no words", war.spy(1, 0, 0), -1);
        Due.is("side 1: 0", war.spy(1, 0, 1), 0);
        Due.is("side 1: none", war.spy(1, 0, 2), 0);
    }

    // ---- promises 22 to 29

    private static void fight() {
        WordWar war = new WordWar();
        Due.text(war, "b>a" + "z".repeat(100));
        Due.is("3 bytes", war.fight(3), 1);
        Due.is("empty then", war.count(2), 0);
        Due.is("the first one stood ahead", war.ahead(1, 0), 239500800L);
        Due.is("not the second one", war.ahead(0, 1), 0);
        Due.is("17 bytes", Due.fight(war, "aaaaaaac>aaaaaaab"), 2);
        Due.is("count", war.count(4), 2);
        Due.is("c, b, a", war.learnt(-1), 479001600L / 6);
        Due.is("words of unlike lengths", Due.fight(war, "d>cabcdefg"), 3);
        Due.is("d, c, b, a", war.learnt(-1), 479001600L / 24);
        Due.is("a lexicon does not matter", Due.lexicon(war, 0, "a"), 1);
        Due.is("four", Due.fight(war, "ka>kb"), 4);
        Due.is("in a circle", war.learnt(-1), 0);
    }

    private static void fightFaults() {
        WordWar war = new WordWar();
        String[] texts = {">ab", "abc", "ab>", "a>>", "a,b", "a>b,", "a>b>c", "m>a", "a>m", "a> b", "a b>c", "`>a", "a>b\0",
            "abcdefghi>a", "a>abcdefghi", "bbcdefgh>a", "a>bbcdefgh", "aaaaaaaaaaaaaaaaa", "abcdefgh>abcdefgi",
            "abcdefgh>abcdefgm", "abcdefghm>a"};
        int[] due = {-1000, -1003, -1003, -1002, -1001, -1003, -1003, -1000, -1002, -1002, -1001, -1000, -1003,
            -3008, -3010, 1, 2, -3008, 3, -1016, -1008};
        for (int i = 0; i < texts.length; i++) {
            Due.is(texts[i], Due.fight(war, texts[i]), due[i]);
            Due.is("empty then", war.count(2), 0);
        }
        Due.is("three were taken", war.count(4), 3);
        Due.text(war, "ab>c");
        Due.is("the end, though the tape goes on", war.fight(3), -1003);
    }

    private static void fightsAreThere() {
        WordWar war = new WordWar();
        for (int i = 1; i <= 24; i++) {
            Due.is("fight " + i, Due.fight(war, "a>b"), i);
        }
        Due.is("a 25th", Due.fight(war, "a>b"), -4000);
        Due.is("empty then", war.count(2), 0);
        Due.is("a 25th of 17 bytes", Due.fight(war, "abcdefgh>abcdefgi"), -4000);
        Due.is("24", war.count(4), 24);
        Due.is("it was not taken", war.ahead(7, 8), 239500800L / 2);
        Due.is("a text with a fault", Due.fight(war, "a>b;"), -1003);
        Due.is("a ninth letter", Due.fight(war, "abcdefghi>a"), -3008);
        Due.is("forgotten", war.forget(), 24);
        Due.is("one", Due.fight(war, "a>b"), 1);
    }

    private static void nothingTold() {
        WordWar war = new WordWar();
        String[] texts = {"a>a", "abcdefgh>abcdefgh", "a>ab", "ab>a", "abcdefg>abcdefgh", "abcdefgh>abcdefg", "a>aaaaaaaa"};
        for (String text : texts) {
            Due.is(text, Due.fight(war, text), -5000);
            Due.is("empty then", war.count(2), 0);
        }
        Due.is("none was taken", war.count(4), 0);
        Due.is("all orders", war.learnt(-1), 479001600L);
        Due.is("a letter is unlike ahead of the end", Due.fight(war, "ab>aab"), 1);
        for (int i = 2; i <= 24; i++) {
            Due.is("fight " + i, Due.fight(war, "b>a"), i);
        }
        for (String text : texts) {
            Due.is("ahead of 4: " + text, Due.fight(war, text), -5000);
        }
        Due.is("24", war.count(4), 24);
    }

    private static void fightRefused() {
        WordWar war = new WordWar();
        Due.text(war, "a>b");
        int[] n = {2, 1, 0, -1, 18, 20, 21, Integer.MIN_VALUE, Integer.MAX_VALUE};
        for (int one : n) {
            Due.is("n " + one, war.fight(one), -1);
        }
        Due.is("the tape stays", war.count(2), 20);
        Due.is("17 bytes", war.fight(17), -1003);
        Due.is("no bytes", war.fight(3), -1);
        Due.is("none was taken", war.count(4), 0);
    }

    private static void learnt() {
        WordWar war = new WordWar();
        Due.is("how many", war.learnt(-1), 479001600L);
        Due.is("place 0", war.learnt(0), 0);
        Due.is("place 11", war.learnt(11), 11);
        int[] places = {-2, -3, 12, 13, Integer.MIN_VALUE, Integer.MAX_VALUE};
        for (int place : places) {
            Due.is("place " + place, war.learnt(place), -3);
        }
        Due.fight(war, "a>b");
        Due.fight(war, "b>a");
        Due.is("none", war.learnt(-1), 0);
        for (int place = 0; place < 12; place++) {
            Due.is("none at " + place, war.learnt(place), -2);
        }
    }

    private static void ahead() {
        WordWar war = new WordWar();
        Due.is("a, l", war.ahead(0, 11), 239500800L);
        Due.is("l, a", war.ahead(11, 0), 239500800L);
        Due.is("a twice", war.ahead(0, 0), -1);
        Due.is("l twice", war.ahead(11, 11), -1);
        Due.is("12", war.ahead(12, 0), -1);
        Due.is("12", war.ahead(0, 12), -1);
        for (int n : BEYOND) {
            Due.is("a " + n, war.ahead(n, 0), -1);
            Due.is("b " + n, war.ahead(0, n), -1);
            Due.is("twice " + n, war.ahead(n, n), -1);
        }
        Due.fight(war, "l>a");
        Due.is("l, a: all", war.ahead(11, 0), 239500800L);
        Due.is("a, l: none", war.ahead(0, 11), 0);
    }

    private static void skirmish() {
        WordWar war = new WordWar();
        Due.is("lower", war.skirmish(0), 0);
        Due.is("higher", war.skirmish(1), 1);
        Due.is("ways", war.skirmish(2), 239500800L);
        Due.is("what 3", war.skirmish(3), -1);
        for (int n : BEYOND) {
            Due.is("what " + n, war.skirmish(n), -1);
        }
        for (int k = 0; k < 10; k++) {
            Due.fight(war, (char) ('a' + k) + ">" + (char) ('b' + k));
        }
        Due.fight(war, "j>l");
        Due.is("k and l alone", war.skirmish(0) * 100 + war.skirmish(1), 1011);
        Due.is("1 way each", war.skirmish(2), 1);
        Due.fight(war, "l>k");
        for (int what = 0; what < 3; what++) {
            Due.is("none tells more", war.skirmish(what), -2);
        }
        Due.is("what 3", war.skirmish(3), -1);
        Due.fight(war, "k>l");
        for (int what = 0; what < 3; what++) {
            Due.is("no orders", war.skirmish(what), -2);
        }
    }

    private static void forget() {
        WordWar war = new WordWar();
        Due.is("none", war.forget(), 0);
        Due.fight(war, "b>a");
        Due.is("one", war.forget(), 1);
        Due.is("no fights", war.count(4), 0);
        Due.is("all orders", war.learnt(-1), 479001600L);
        Due.is("a first", war.learnt(0), 0);
        Due.is("a ahead of b", war.ahead(0, 1), 239500800L);
        Due.is("none any more", war.forget(), 0);
        for (int i = 0; i < 24; i++) {
            Due.fight(war, "b>a");
        }
        Due.is("24", war.forget(), 24);
    }

    private static void soldier() {
        WordWar war = Due.armed("a,l", "", "", "");
        Due.is("the lowest of all", war.soldier(0, 0, 0, 0, 1), true);
        Due.is("the highest of all", war.soldier(23, 11, 15, 15, 9), true);
        Due.is("two", war.count(5), 2);
        int[][] wrong = {{-1, 0, 0, 0, 1}, {24, 0, 0, 0, 1}, {0, -1, 5, 5, 5}, {0, 12, 5, 5, 5}, {0, 1, -1, 5, 5},
            {0, 1, 16, 5, 5}, {0, 1, 5, -1, 5}, {0, 1, 5, 16, 5}, {0, 1, 5, 5, 0}, {0, 1, 5, 5, 10}};
        for (int[] one : wrong) {
            Due.is("no such one", war.soldier(one[0], one[1], one[2], one[3], one[4]), false);
        }
        for (int n : BEYOND) {
            for (int k = 0; k < 5; k++) {
                int[] one = {0, 1, 5, 5, 5};
                one[k] = n;
                Due.is("no such one", war.soldier(one[0], one[1], one[2], one[3], one[4]), false);
            }
        }
        Due.is("two", war.count(5), 2);
        Due.is("the a is at (0, 0)", war.march(0, 0, 0, 0, -1), 0);
        Due.is("by 1", war.march(0, 0, 0, 2, -1), 2);
        Due.is("the l is at (15, 15)", war.march(0, 1, 15, 15, -1), 0);
        Due.is("by 9", war.march(0, 1, 15, 5, -1), 2);
        Due.is("in place of the one before", war.soldier(0, 11, 15, 14, 1), true);
        Due.is("still two", war.count(5), 2);
        Due.is("no a any more", war.march(0, 0, 0, 0, -1), -2);
        Due.is("an l", war.march(0, 1, 15, 14, 0), 0);
        for (int i = 0; i < 24; i++) {
            war.soldier(i, 0, 0, 0, 1);
        }
        Due.is("24", war.count(5), 24);
    }

    private static void march() {
        WordWar war = Due.armed("abcdefgh,l", "", "a", "");
        Due.is("it can't be", war.march(0, 0, 0, 0, -1), -2);
        Due.is("who, then", war.march(0, 0, 0, 0, 0), -2);
        for (int i = 0; i < 8; i++) {
            Due.is("not all yet", war.march(0, 0, 0, 0, -1), -2);
            war.soldier(23 - i, i, 15, 15, 1);
        }
        Due.is("30 hours", war.march(0, 0, 0, 0, -1), 30);
        for (int k = 0; k < 8; k++) {
            Due.is("letter " + k, war.march(0, 0, 0, 0, k), 23 - k);
        }
        Due.is("no l", war.march(0, 1, 0, 0, -1), -2);
        Due.is("side 1's a", war.march(1, 0, 15, 15, -1), 0);
        Due.is("side 1's a", war.march(1, 0, 15, 15, 0), 23);
        war.soldier(0, 0, 0, 0, 1);
        Due.is("0 hours", war.march(1, 0, 0, 0, -1), 0);
        Due.is("soldier 0", war.march(1, 0, 0, 0, 0), 0);
    }

    private static void marchRefused() {
        WordWar war = Due.armed("ab", "", "", "");
        war.soldier(0, 0, 0, 0, 1);
        war.soldier(1, 1, 1, 0, 1);
        Due.is("letter 1", war.march(0, 0, 0, 0, 1), 1);
        Due.is("letter 2", war.march(0, 0, 0, 0, 2), -3);
        Due.is("letter -2", war.march(0, 0, 0, 0, -2), -3);
        Due.is("x 14", war.march(0, 0, 14, 0, -1), 14);
        Due.is("x 15", war.march(0, 0, 15, 0, -1), -3);
        Due.is("x 16", war.march(0, 0, 16, 0, -1), -3);
        Due.is("x -1", war.march(0, 0, -1, 0, -1), -3);
        Due.is("y 15", war.march(0, 0, 0, 15, -1), 15);
        Due.is("y 16", war.march(0, 0, 0, 16, -1), -3);
        Due.is("y -1", war.march(0, 0, 0, -1, -1), -3);
        Due.is("w 1", war.march(0, 1, 0, 0, -1), -3);
        Due.is("side 2", war.march(2, 0, 0, 0, -1), -3);
        Due.is("side 1 has none", war.march(1, 0, 0, 0, -1), -3);
        for (int n : BEYOND) {
            Due.is("side " + n, war.march(n, 0, 0, 0, -1), -3);
            Due.is("w " + n, war.march(0, n, 0, 0, -1), -3);
            Due.is("x " + n, war.march(0, 0, n, 0, -1), -3);
            Due.is("y " + n, war.march(0, 0, 0, n, -1), -3);
            Due.is("what " + n, war.march(0, 0, 0, 0, n), n == -1 ? 0 : -3);
        }
    }

    private static void dead() {
        WordWar war = Due.armed("a", "a", "l,bb", "l,bb");
        Due.law(war, "f8(1=1)");
        for (int side = 0; side < 2; side++) {
            Due.is("none", war.dead(side, -1), 0);
            Due.is("none alike", war.dead(side, -2), 0);
            Due.is("no place", war.dead(side, 0), -3);
        }
        Due.orders(war, 0, "a>l");
        Due.is("one", war.dead(1, -1), 1);
        Due.is("one alike", war.dead(1, -2), 1);
        Due.is("place 0", war.dead(1, 0), 11);
        Due.is("place 1", war.dead(1, 1), -3);
        Due.orders(war, 0, "a>bb");
        Due.is("three", war.dead(1, -1), 3);
        Due.is("two alike", war.dead(1, -2), 2);
        Due.is("place 0", war.dead(1, 0), 1);
        Due.is("place 2", war.dead(1, 2), 11);
        Due.is("place 3", war.dead(1, 3), -3);
        Due.is("place -3", war.dead(1, -3), -3);
        Due.is("side 2", war.dead(2, 0), -3);
        Due.is("side -1", war.dead(-1, -1), -3);
        int[] beyond = {Integer.MIN_VALUE, -4, 1000, 12000, Integer.MAX_VALUE};
        for (int n : beyond) {
            Due.is("place " + n, war.dead(1, n), -3);
            Due.is("side " + n, war.dead(n, -1), -3);
            Due.is("side " + n, war.dead(n, -2), -3);
        }
    }

    // ---- promises 30 to 34

    private static void seed() {
        WordWar war = new WordWar();
        int[] numbers = {-1, 0, 1, 65534, 65535, 65536, Integer.MIN_VALUE, Integer.MAX_VALUE};
        int x = 1;
        for (int n : numbers) {
            boolean is = n >= 0 && n <= 65535;
            x = is ? n : x;
            Due.is("seed " + n, war.seed(n), is);
            Due.is("X", war.count(3), x);
        }
        war.turn();
        int after = war.count(3);
        Due.is("the same seed", war.seed(65535), true);
        war.turn();
        Due.is("the same draws", war.count(3), after);
        Due.is("two turns: they are not undone", war.count(0), 2);
    }

    private static void keep() {
        WordWar war = new WordWar();
        Due.is("none", war.keep(), 0);
        war.reserve(0, 0, 1);
        Due.is("one of side 0", war.keep(), 1);
        war.reserve(1, 11, 2);
        Due.is("and two of side 1", war.keep(), 3);
        for (int letter = 0; letter < 12; letter++) {
            war.reserve(0, letter, 999);
            war.reserve(1, letter, 999);
        }
        Due.is("all", war.keep(), 24 * 999);
        Due.is("nothing has changed", war.count(14) + war.count(15), 24 * 999);
        Due.lexicon(war, 0, "a");
        Due.is("one is formed", Due.orders(war, 0, "+a"), 1);
        Due.is("one less", war.keep(), 24 * 999 - 1);
    }

    private static void undo() {
        WordWar war = Due.armed("a", "", "", "");
        Due.is("none was kept", war.undo(), false);
        war.reserve(0, 0, 1);
        Due.is("kept", war.keep(), 1);
        Due.orders(war, 0, "+a");
        war.turn();
        Due.is("undone", war.undo(), true);
        Due.is("a is in the reserve", war.count(100), 1);
        Due.is("none stands", war.count(12), 0);
        Due.is("turn 0", war.count(0), 0);
        Due.is("X", war.count(3), 1);
        Due.is("undone, though nothing was done", war.undo(), true);
        war.strength(3, 44);
        Due.order(war, 0, "lkjihgfedcba");
        Due.lexicon(war, 1, "b,c");
        Due.law(war, "v5(1=1)");
        Due.text(war, "text");
        Due.is("undone", war.undo(), true);
        Due.is("strengths are not kept", war.count(223), 44);
        Due.is("nor orders", war.count(190), 11);
        Due.is("nor lexicons", war.count(11), 2);
        Due.is("nor the law", war.count(1), 1);
        Due.is("nor the tape", war.count(2), 20);
    }

    private static void check() {
        WordWar war = new WordWar();
        war.reserve(0, 0, 1);
        war.reserve(0, 11, 999);
        war.feed(1, 0, 0, 0, 0);
        Due.is("0 numbers", war.check(0, 0), -1);
        Due.is("empty then", war.count(2), 0);
        Due.is("0 numbers of no tape", war.check(0, 0), -1);
        war.feed(1, 0, 0, 0, 1);
        Due.is("1 number", war.check(0, 1), -1);
        Due.is("empty then", war.count(2), 0);
        war.feed(1, 0, 0, 0, 1);
        Due.is("4 numbers", war.check(0, 4), -1);
        war.feed(1, 0, 0, 0, 1);
        Due.is("the fifth is not so", war.check(0, 5), 4);
        Due.is("empty then", war.count(2), 0);
        for (int last = 998; last <= 1000; last++) {
            war.feed(1, 0, 0, 0, 0);
            war.feed(0, 0, 0, 0, 0);
            war.feed(0, last, 7, 7, 7);
            Due.is("12 numbers, the last " + last, war.check(0, 12), last == 999 ? -1 : 11);
        }
        war.feed(0, 1, 0, 0, 0);
        Due.is("the first of two that are not so", war.check(0, 2), 0);
        war.feed(0x01000000, 0, 0, 0, 0);
        Due.is("the highest byte first", war.check(0, 1), 0);
        war.feed(0x80000001, 0, 0, 0, 0);
        Due.is("32 bits", war.check(0, 1), 0);
        war.feed(1, 0, 0, 0, 0);
        Due.is("side 1's is not so", war.check(1, 1), 0);
        Due.is("the reserve stays", war.count(100), 1);
    }

    private static void checkRefused() {
        WordWar war = new WordWar();
        Due.is("no tape", war.check(0, 1), -2);
        war.feed(0, 0, 0, 0, 0);
        Due.is("5 of 5 would do", war.check(0, 6), -2);
        int[] n = {-1, 13, Integer.MIN_VALUE, Integer.MAX_VALUE, 1 << 30};
        for (int one : n) {
            Due.is("n " + one, war.check(0, one), -2);
        }
        int[] sides = {-1, 2, Integer.MIN_VALUE, Integer.MAX_VALUE};
        for (int side : sides) {
            Due.is("side " + side, war.check(side, 1), -2);
            Due.is("side " + side, war.check(side, 0), -2);
        }
        Due.is("the tape stays", war.count(2), 20);
        Due.is("5 of 5", war.check(1, 5), -1);
        for (int i = 0; i < 3; i++) {
            war.feed(0, 0, 0, 0, 0);
        }
        Due.is("13 of 15", war.check(0, 13), -2);
        Due.is("the tape stays", war.count(2), 60);
        Due.is("12 of 15", war.check(0, 12), -1);
    }

    private static void countAll() {
        WordWar war = new WordWar();
        war.turn();
        war.turn();
        Due.law(war, "v1(1=1);v1(1=1);v1(1=1)");
        war.seed(4711);
        for (int i = 0; i < 4; i++) {
            Due.fight(war, "a>b");
        }
        for (int i = 0; i < 5; i++) {
            war.soldier(4 * i, 0, 0, 0, 1);
        }
        war.soldier(4, 1, 1, 1, 2);
        war.feed(0, 0, 0, 0, 0);
        int[] due = {2, 3, 20, 4711, 4, 5, -1};
        for (int what = 0; what < due.length; what++) {
            Due.is("count(" + what + ")", war.count(what), due[what]);
        }
    }

    private static void countOfSides() {
        WordWar war = Due.armed("a,l,aa", "a,l", TWELVE, "b,c,l");
        Due.law(war, "f1(s=1);p1(1=1)");
        war.strength(11, 9);
        Due.is("b falls, l is taken", Due.orders(war, 0, "a>b;a>l"), 2);
        Due.is("side 0's l is taken", Due.orders(war, 1, "c>l"), 1);
        Due.reserve(war, 0, "abbccc");
        Due.reserve(war, 1, "lllll");
        int[] due = {3, 12, 1, 4, 6, 5, 0, 1, 1, 1};
        for (int i = 0; i < due.length; i++) {
            Due.is("count(" + (10 + i) + ")", war.count(10 + i), due[i]);
        }
        Due.is("count(9)", war.count(9), -1);
        Due.is("count(20)", war.count(20), -1);
    }

    private static void countOfLetters() {
        WordWar war = Due.armed("a,l", "a,l", "a,l,aa", "a,l,aa");
        Due.law(war, "f8(s=1);p8(1=1)");
        war.strength(11, 9);
        Due.is("l is taken, aa too", Due.orders(war, 0, "a>l;a>aa"), 2);
        Due.is("a dies: like words", Due.orders(war, 0, "a>a"), 1);
        Due.is("l is taken", Due.orders(war, 1, "a>l"), 1);
        for (int i = 0; i < 24; i++) {
            war.reserve(i / 12, i % 12, 10 + i);
        }
        for (int i = 0; i < 24; i++) {
            Due.is("reserve " + i, war.count(100 + i), 10 + i);
            Due.is("grave " + i, war.count(130 + i), i == 0 ? 1 : 0);
            Due.is("prisoners " + i, war.count(160 + i), i == 11 || i == 23 ? 1 : i == 12 ? 2 : 0);
        }
    }

    private static void countOfOrders() {
        WordWar war = new WordWar();
        Due.order(war, 0, "lkjihgfedcba");
        Due.order(war, 1, "bcdefghijkla");
        for (int i = 0; i < 12; i++) {
            war.strength(i, 50 + i);
        }
        for (int k = 0; k < 12; k++) {
            Due.is("side 0, place " + k, war.count(190 + k), 11 - k);
            Due.is("side 1, place " + k, war.count(202 + k), (k + 1) % 12);
            Due.is("strength " + k, war.count(220 + k), 50 + k);
        }
    }

    private static void countOthers() {
        WordWar war = new WordWar();
        for (int i = 0; i < 24; i++) {
            war.reserve(i / 12, i % 12, 7);
        }
        int[] others = {-3, -2, -1, 6, 7, 8, 9, 20, 21, 22, 99, 124, 125, 129, 154, 155, 159, 184, 185, 189, 214, 215, 219,
            232, 233, 256, 1000, 65536, Integer.MIN_VALUE, Integer.MAX_VALUE};
        for (int what : others) {
            Due.is("count(" + what + ")", war.count(what), -1);
        }
    }
}
