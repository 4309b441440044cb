/** The sentences of "Terms" on the law, each at its boundaries. */
public final class EdgeLawTest {
    private static final String FOURTEEN = "f1(1=1);".repeat(13) + "f1(1=1)";

    public static void main(String[] args) throws Exception {
        Edge.begin(args);
        texts();
        bounds();
        reckoning();
        letters();
        refused();
        faults();
        Edge.end();
    }

    private static void texts() {
        Edge.of(Edge.TERMS, "THE LAW: a TEXT of at most 200 bytes", EdgeLawTest::bytes);
        Edge.of(Edge.TERMS, "no blanks (none at first)", EdgeLawTest::blanks);
        Edge.of(Edge.TERMS, "no blanks (none at first)", EdgeLawTest::noneAtFirst);
        Edge.of(Edge.TERMS, "CLAUSES (14 at most) with a ; (59) between two: a letter, E, and (C)", EdgeLawTest::manyClauses);
        Edge.of(Edge.TERMS, "CLAUSES (14 at most) with a ; (59) between two: a letter, E, and (C)", EdgeLawTest::clauseLetters);
        Edge.of(Edge.TERMS, "of the first one of a letter whose C holds the E", EdgeLawTest::firstThatHolds);
    }

    private static void bounds() {
        Edge.of(Edge.TERMS, "(beyond its bounds the bound; none: 0)", EdgeLawTest::noneHolds);
        Edge.of(Edge.TERMS, "f how many LETTERS of a WORD that lost fall (0 to 8)", EdgeLawTest::boundsOfF);
        Edge.of(Edge.TERMS, "p how many are taken (0 to 8)", EdgeLawTest::boundsOfP);
        Edge.of(Edge.TERMS, "v what a WORD is worth (0 to 9999)", EdgeLawTest::boundsOfV);
        Edge.of(Edge.TERMS, "d tenths for a deserter (0 to 10)", EdgeLawTest::boundsOfD);
        Edge.of(Edge.TERMS, "w what an exchange costs (0 to 999).", EdgeLawTest::boundsOfW);
    }

    private static void reckoning() {
        Edge.of(Edge.TERMS, "C: PARTS with a | between two, one of which must hold; a PART: PIECES with an & between two, all of which must",
                EdgeLawTest::partsAndPieces);
        Edge.of(Edge.TERMS, "a PIECE: !PIECE, (C), or E, one of < > =, and E.", EdgeLawTest::pieces);
        Edge.of(Edge.TERMS, "E: TERMS with + or - between two; a TERM: FACTORS with one of * / % between two; from the left on",
                EdgeLawTest::fromTheLeftOn);
        Edge.of(Edge.TERMS, "a FACTOR: [E], a number of one to five digits, or a letter", EdgeLawTest::factors);
        Edge.of(Edge.TERMS, "All is reckoned with 32 bits, as the machine does", EdgeLawTest::bits32);
    }

    private static void letters() {
        Edge.of(Edge.TERMS, "t THE TURN, i the SIDE (in f, p: of the one that lost)", EdgeLawTest::turnAndSide);
        Edge.of(Edge.TERMS, "m the WORD's length, s its STRENGTH (of its LETTERS together) (in f, p, v)", EdgeLawTest::lengthAndStrength);
        Edge.of(Edge.TERMS, "n, q those of the one that won, r the DRAW (in f, p)", EdgeLawTest::theWinner);
        Edge.of(Edge.TERMS, "x the LETTER, h how many of it are in the RESERVE (in d)", EdgeLawTest::letterAndReserve);
        Edge.of(Edge.TERMS, "x, y LETTERS that are given and gotten (in w; i the one that asks)", EdgeLawTest::givenAndGotten);
        Edge.of(Edge.TERMS, "(where they are not told they are 0).", EdgeLawTest::notTold);
    }

    private static void refused() {
        Edge.of(Edge.TERMS, "what is divided by 0 is REFUSED: then the C as a whole does not hold (through any !, ( ) and |)",
                EdgeLawTest::refusedInC);
        Edge.of(Edge.TERMS, "what is divided by 0 is REFUSED: then the C as a whole does not hold (through any !, ( ) and |), an E is 0.",
                EdgeLawTest::refusedInE);
        Edge.of(Edge.TERMS, "Of a C as much is asked, from the left, as matters.", EdgeLawTest::asMuchAsMatters);
    }

    private static void faults() {
        Edge.of(Edge.TERMS, "FAULTS, the first from the left: 1 what can't stand there (the end, too); 2 a sixth digit",
                EdgeLawTest::cantStandThere);
        Edge.of(Edge.TERMS, "2 a sixth digit, at it", EdgeLawTest::sixthDigit);
        Edge.of(Edge.TERMS, "4 a 15th CLAUSE, at its letter (if that can stand there)", EdgeLawTest::fifteenthClause);
        Edge.of(Edge.TERMS, "5 a seventh of ( [ ! that are open in one another, at it", EdgeLawTest::seventhOpen);
        Edge.of(Edge.TERMS, "(the ( of the CLAUSE counts;", EdgeLawTest::clauseCounts);
        Edge.of(Edge.TERMS, "a ! is open till its PIECE ends;", EdgeLawTest::notIsOpen);
        Edge.of(Edge.TERMS, "the E of a CLAUSE stands ahead of it).", EdgeLawTest::numberAhead);
        Edge.of(Edge.TERMS, "FAULTS, the first from the left: 1 what can't stand there (the end, too); 2 a sixth digit",
                EdgeLawTest::firstFromTheLeft);
    }

    /** What abc of side 1 is worth at turn 1; a has strength 7, b and c 1. */
    private static int worth(String law) {
        WordWar war = new WordWar();
        Due.lexicon(war, 1, "abc");
        war.strength(0, 7);
        war.turn();
        Due.is("law " + law, Due.law(war, law) > 0, true);
        return war.word(1, 0, 4);
    }

    private static void holds(String condition, boolean due) {
        Due.is(condition, worth("v1(" + condition + ")"), due ? 1 : 0);
    }

    private static void comes(String number, int due) {
        Due.is(number, worth("v" + number + "(1=1)"), due);
    }

    private static void fault(String law, int due) {
        WordWar war = new WordWar();
        Due.law(war, "v5(1=1);v6(1=1)");
        Due.is(law, Due.law(war, law), due);
        Due.is("the tape is empty then", war.count(2), 0);
        if (due < 0) {
            Due.is("the one before stays", war.count(1), 2);
        }
    }

    // ---- texts

    private static void bytes() {
        String law = "v" + "1+".repeat(96) + "12(1=1)";
        Due.is("it has 200 bytes", law.length(), 200);
        WordWar war = new WordWar();
        Due.lexicon(war, 0, "a");
        Due.is("200 bytes", Due.law(war, law), 1);
        Due.is("all of them are asked", war.word(0, 0, 4), 108);
        Due.text(war, law);
        Due.is("199 of them", war.law(199), -1199);
        Due.text(war, law);
        Due.is("201 bytes", war.law(201), -1);
        Due.is("0 bytes", war.law(0), -1);
        Due.is("the tape stays", war.count(2), 200);
        Due.is("1 byte", war.law(1), -1001);
        Due.is("the one before stays", war.word(0, 0, 4), 108);
        Due.text(war, law + "z");
        Due.is("201 bytes of 220", war.law(201), -1);
        Due.is("the tape stays", war.count(2), 220);
    }

    private static void blanks() {
        String law = "f1(1=1)";
        for (int at = 0; at <= law.length(); at++) {
            fault(law.substring(0, at) + " " + law.substring(at), -1000 - at);
        }
        fault(law, 1);
    }

    private static void noneAtFirst() {
        WordWar war = Due.armed("a", "a", "b", "b");
        Due.is("no clauses", war.count(1), 0);
        Due.is("a word is worth nothing", war.word(0, 0, 4), 0);
        Due.reserve(war, 0, "abcdefghijkl");
        Due.is("no deserters", war.turn(), 0);
        Due.is("an attack", Due.orders(war, 0, "a>b"), 1);
        Due.is("b stands", war.count(13), 1);
        Due.is("none dead, none taken", war.count(17) + war.count(19), 0);
    }

    private static void manyClauses() {
        WordWar war = new WordWar();
        Due.lexicon(war, 0, "a");
        Due.is("one", Due.law(war, "v1(1=1)"), 1);
        Due.is("thirteen", Due.law(war, "f1(1=1);".repeat(12) + "v2(1=1)"), 13);
        Due.is("the thirteenth is asked", war.word(0, 0, 4), 2);
        Due.is("fourteen", Due.law(war, "f1(1=1);".repeat(13) + "v3(1=1)"), 14);
        Due.is("the fourteenth is asked", war.word(0, 0, 4), 3);
        Due.is("count", war.count(1), 14);
        Due.is("fifteen", Due.law(war, FOURTEEN + ";v4(1=1)"), -4112);
        Due.is("the one before stays", war.word(0, 0, 4), 3);
        fault("v1(1=1):v1(1=1)", -1007);
        fault("v1(1=1)<v1(1=1)", -1007);
        fault("v1(1=1),v1(1=1)", -1007);
        fault("v1(1=1)v1(1=1)", -1007);
        fault("v1(1=1);;v1(1=1)", -1008);
        fault(";v1(1=1)", -1000);
        fault("v1(1=1);", -1008);
    }

    private static void clauseLetters() {
        for (char letter = 0; letter < 256; letter++) {
            fault(letter + "1(1=1)", "fpvdw".indexOf(letter) >= 0 ? 1 : -1000);
        }
        fault("(1=1)", -1000);
        fault("v(1=1)", -1001);
        fault("v1", -1002);
        fault("v1(", -1003);
        fault("v1()", -1003);
        fault("v1(1=1", -1006);
        fault("v1[1=1]", -1002);
    }

    private static void firstThatHolds() {
        Due.is("the first one", worth("v1(1=1);v2(1=1)"), 1);
        Due.is("the second one", worth("v1(1=2);v2(1=1);v3(1=1)"), 2);
        Due.is("the last of fourteen", worth("v1(1=2);".repeat(13) + "v9(1=1)"), 9);
        Due.is("of another letter", worth("w1(1=1);d2(1=1);f3(1=1);p4(1=1);v5(1=1)"), 5);
        Due.is("a first one that is 0", worth("v0(1=1);v2(1=1)"), 0);
        Due.is("a first one below its bound", worth("v0-1(1=1);v2(1=1)"), 0);
    }

    // ---- bounds

    private static void noneHolds() {
        Due.is("none of v", worth("w1(1=1)"), 0);
        Due.is("none that holds", worth("v1(1=2)"), 0);
        Due.is("none of fourteen", worth("v1(1=2);".repeat(13) + "v1(1=2)"), 0);
    }

    private static WordWar attacked(String law) {
        WordWar war = Due.armed("a", "a", "bbbbbbbb", "bbbbbbbb");
        Due.is("law " + law, Due.law(war, law) > 0, true);
        Due.is("attack", Due.orders(war, 0, "a>bbbbbbbb"), 1);
        return war;
    }

    private static void boundsOfF() {
        String[] f = {"0-99999", "0-1", "0", "1", "7", "8", "9", "99999"};
        int[] due = {0, 0, 0, 1, 7, 8, 8, 8};
        for (int i = 0; i < f.length; i++) {
            WordWar war = attacked("f" + f[i] + "(1=1);p1(1=1)");
            Due.is("f " + f[i], war.count(17), due[i]);
            Due.is("then p, f " + f[i], war.count(19), due[i] == 8 ? 0 : 1);
            Due.is("the others, f " + f[i], war.count(15), Math.max(0, 7 - due[i]));
        }
        Due.is("no f", attacked("p1(1=1)").count(17), 0);
    }

    private static void boundsOfP() {
        String[] p = {"0-99999", "0-1", "0", "1", "7", "8", "9", "99999"};
        int[] due = {0, 0, 0, 1, 7, 8, 8, 8};
        for (int i = 0; i < p.length; i++) {
            WordWar war = attacked("p" + p[i] + "(1=1)");
            Due.is("p " + p[i], war.count(19), due[i]);
            Due.is("none fell, p " + p[i], war.count(17), 0);
            Due.is("stands, p " + p[i], war.count(13), due[i] == 0 ? 1 : 0);
            war = attacked("f1(1=1);p" + p[i] + "(1=1)");
            Due.is("f 1, p " + p[i], war.count(19), Math.min(7, due[i]));
            Due.is("f 1, p " + p[i], war.count(17), 1);
        }
        Due.is("no p", attacked("f1(1=1)").count(19), 0);
    }

    private static void boundsOfV() {
        String[] v = {"0-99999", "0-1", "0", "1", "9998", "9999", "10000", "99999"};
        int[] due = {0, 0, 0, 1, 9998, 9999, 9999, 9999};
        for (int i = 0; i < v.length; i++) {
            comes(v[i], due[i]);
        }
    }

    /** Side 0's twelve letters have the draws ahead of side 1's: how many of them go. */
    private static void boundsOfD() {
        String[] d = {"0-99999", "0-1", "0", "1", "9", "10", "11", "99999"};
        int[] below = {0, 0, 0, 1, 9, 10, 10, 10};
        for (int i = 0; i < d.length; i++) {
            for (int seed = 0; seed < 10; seed++) {
                WordWar war = new WordWar();
                Due.law(war, "d" + d[i] + "(i=0)");
                Due.reserve(war, 0, "abcdefghijkl");
                war.seed(seed);
                int due = 0;
                int x = seed;
                for (int letter = 0; letter < 12; letter++) {
                    x = (25173 * x + 13849) % 65536;
                    due += x % 10 < below[i] ? 1 : 0;
                }
                Due.is("d " + d[i], war.turn(), due);
            }
        }
    }

    /** Side 0 gains v by an exchange that costs w, if it gives e and gets b; side 1 gains v by getting e. */
    private static int exchanges(String v, String w) {
        WordWar war = new WordWar();
        Due.lexicon(war, 0, "ab");
        Due.lexicon(war, 1, "e");
        Due.reserve(war, 0, "ae");
        Due.reserve(war, 1, "b");
        Due.is("law", Due.law(war, "v" + v + "(i=0);v1(1=1);w" + w + "(1=1)"), 3);
        return war.exchange(0, 0);
    }

    private static void boundsOfW() {
        Due.is("0 is more than -1, and not more than 0", exchanges("0", "0-1"), 0);
        Due.is("0 is not more than 0", exchanges("0", "0"), 0);
        Due.is("1 is more than 0", exchanges("1", "0"), 1);
        Due.is("1 is more than what is below 0", exchanges("1", "0-99999"), 1);
        Due.is("998 is not more than 998", exchanges("998", "998"), 0);
        Due.is("999 is more than 998", exchanges("999", "998"), 1);
        Due.is("999 is not more than 999", exchanges("999", "999"), 0);
        Due.is("1000 is more than 999", exchanges("1000", "999"), 1);
        Due.is("1000 and the bound for 1000", exchanges("1000", "1000"), 1);
        Due.is("999 and the bound for 1000", exchanges("999", "1000"), 0);
        Due.is("1000 and the bound for 99999", exchanges("1000", "99999"), 1);
    }

    // ---- reckoning

    private static void partsAndPieces() {
        String[] truth = {"1=2", "1=1"};
        for (int i = 0; i < 8; i++) {
            boolean a = (i & 1) != 0;
            boolean b = (i & 2) != 0;
            boolean c = (i & 4) != 0;
            String x = truth[i & 1];
            String y = truth[i >> 1 & 1];
            String z = truth[i >> 2];
            holds(x + "|" + y + "|" + z, a || b || c);
            holds(x + "&" + y + "&" + z, a && b && c);
            holds(x + "|" + y + "&" + z, a || b && c);
            holds(x + "&" + y + "|" + z, a && b || c);
            holds("(" + x + "|" + y + ")&" + z, (a || b) && c);
            holds(x + "&(" + y + "|" + z + ")", a && (b || c));
            holds("!" + x + "&" + y, !a && b);
            holds("!(" + x + "&" + y + ")|" + z, !(a && b) || c);
            holds("!" + x + "|!" + y + "&!" + z, !a || !b && !c);
        }
    }

    private static void pieces() {
        int[][] twos = {{1, 2}, {2, 2}, {3, 2}, {0, 0}, {0, 1}, {99999, 99998}};
        for (int[] two : twos) {
            holds(two[0] + "<" + two[1], two[0] < two[1]);
            holds(two[0] + ">" + two[1], two[0] > two[1]);
            holds(two[0] + "=" + two[1], two[0] == two[1]);
            holds("!" + two[0] + "=" + two[1], two[0] != two[1]);
            holds("!" + two[0] + "<" + two[1], two[0] >= two[1]);
            holds("!" + two[0] + ">" + two[1], two[0] <= two[1]);
            holds("!!" + two[0] + "=" + two[1], two[0] == two[1]);
            holds("(" + two[0] + ">" + two[1] + ")", two[0] > two[1]);
        }
        holds("0-1<0", true);
        holds("0<0-1", false);
        holds("0-2>0-1", false);
        holds("1+1=2", true);
        holds("2=1+1", true);
        fault("v1(1)", -1004);
        fault("v1(1<)", -1005);
        fault("v1(1<=2)", -1005);
        fault("v1(1>=2)", -1005);
        fault("v1(1<2<3)", -1006);
        fault("v1(!)", -1004);
        fault("v1((1=1)=1)", -1008);
        fault("v1(1=(1))", -1005);
    }

    private static void fromTheLeftOn() {
        comes("9-3-2", 4);
        comes("9-3+2", 8);
        comes("9+3-2", 10);
        comes("20/4/5", 1);
        comes("20/4*5", 25);
        comes("20*4/5", 16);
        comes("20%7%4", 2);
        comes("20%7*3", 18);
        comes("20*7%6", 2);
        comes("20/3%4", 2);
        comes("2+3*4", 14);
        comes("2*3+4", 10);
        comes("20-2*3-1", 13);
        comes("20-6/3+1", 19);
        comes("20-7%4+1", 18);
    }

    private static void factors() {
        comes("0", 0);
        comes("7", 7);
        comes("07", 7);
        comes("00007", 7);
        comes("09999", 9999);
        comes("12345-12344", 1);
        comes("99999-99998", 1);
        comes("[7]", 7);
        comes("[[7]]", 7);
        comes("20-[5-2]", 17);
        comes("[2+3]*[4-1]", 15);
        comes("m", 3);
        fault("v000001(1=1)", -2006);
        fault("v[](1=1)", -1002);
        fault("v[1(1=1)", -1003);
        fault("v-1(1=1)", -1001);
        fault("v+1(1=1)", -1001);
        fault("v1+(1=1)", -1003);
        fault("v1*(1=1)", -1003);
        fault("v1m(1=1)", -1002);
        fault("vm1(1=1)", -1002);
        fault("vmm(1=1)", -1002);
        fault("v!1(1=1)", -1001);
        for (char letter = 'a'; letter <= 'z'; letter++) {
            fault("v" + letter + "(1=1)", "timsnqrxhy".indexOf(letter) >= 0 ? 1 : -1001);
        }
        fault("vM(1=1)", -1001);
    }

    private static void bits32() {
        String most = "65536*32767+65535";
        holds(most + ">0", true);
        holds(most + "+1<0", true);
        holds(most + "+1=0-65536*32768", true);
        holds("0-65536*32768-1=" + most, true);
        holds("65536*32768<0", true);
        holds("65536*65536=0", true);
        holds("99999*99999=65536*21512+54977", true);
        comes("99999*99999/10000/100", 1409);
        holds("[0-65536*32768]/[0-1]=0-65536*32768", true);
        holds("[0-65536*32768]%[0-1]=0", true);
        holds("[0-7]/2=0-3", true);
        holds("7/[0-2]=0-3", true);
        holds("[0-7]%2=0-1", true);
        holds("7%[0-2]=1", true);
        holds("[0-1]/2=0", true);
    }

    // ---- letters

    private static void turnAndSide() {
        WordWar war = new WordWar();
        Due.lexicon(war, 0, "a");
        Due.lexicon(war, 1, "a");
        Due.law(war, "vt*10+i(1=1)");
        for (int turn = 0; turn < 3; turn++) {
            Due.is("side 0, turn " + turn, war.word(0, 0, 4), 10 * turn);
            Due.is("side 1, turn " + turn, war.word(1, 0, 4), 10 * turn + 1);
            war.turn();
        }
        // Side 0 attacks: b loses of side 1; then c of side 0.
        for (int i = 0; i < 2; i++) {
            war = Due.armed("a,c", "a,c", "b", "b");
            Due.law(war, "f1(i=" + i + "&t=1);p1(i=" + (1 - i) + "&t=1)");
            war.turn();
            Due.orders(war, 0, "c>b");
            Due.is("side 0 has lost", war.count(16) * 10 + war.count(18), i == 0 ? 10 : 1);
            Due.orders(war, 0, "a>b");
            Due.is("side 1 has lost", war.count(17) * 10 + war.count(19), i == 1 ? 10 : 1);
        }
    }

    private static void lengthAndStrength() {
        WordWar war = new WordWar();
        Due.lexicon(war, 0, "a,aaaaaaaa,ab,l");
        war.strength(0, 99);
        war.strength(1, 0);
        Due.law(war, "vm*1000+s(1=1)");
        Due.is("one letter", war.word(0, 0, 4), 1099);
        Due.is("eight letters", war.word(0, 1, 4), 8792);
        Due.is("two letters", war.word(0, 2, 4), 2099);
        Due.is("1 at first", war.word(0, 3, 4), 1001);
        war.strength(11, 0);
        Due.is("0", war.word(0, 3, 4), 1000);
    }

    private static void theWinner() {
        // a (strength 5) of side 0 wins against bc (strength 9); the draw by seed 1 is 2.
        String[] conditions = {"m=2&s=9", "n=1&q=5", "r=2", "m=1", "n=2", "s=5", "q=9", "r=3"};
        for (int i = 0; i < conditions.length; i++) {
            for (String letter : new String[] {"f", "p"}) {
                WordWar war = Due.armed("a", "a", "bc", "bc");
                war.strength(0, 5);
                war.strength(1, 2);
                war.strength(2, 7);
                Due.is("law", Due.law(war, letter + "1(" + conditions[i] + ")"), 1);
                Due.is("attack", Due.orders(war, 0, "a>bc"), 1);
                Due.is(letter + ": " + conditions[i], war.count(17) + war.count(19), i < 3 ? 1 : 0);
            }
        }
        // bc of side 1 attacks a of side 0 and loses by its dictionary: the winner is the one that was attacked.
        WordWar war = Due.armed("a", "a", "bc", "bc");
        Due.law(war, "f1(m=2&n=1&i=1)");
        Due.is("attack", Due.orders(war, 1, "bc>a"), 1);
        Due.is("c fell", war.count(17), 1);
    }

    private static void letterAndReserve() {
        for (int letter = 0; letter < 12; letter++) {
            WordWar war = new WordWar();
            Due.law(war, "d10(x=" + letter + "&h=2&i=1)");
            for (int i = 0; i < 12; i++) {
                war.reserve(1, i, 2);
            }
            Due.is("letter " + letter, war.turn(), 1);
            Due.is("letter " + letter, war.count(112 + letter), 1);
        }
        int[] there = {1, 998, 999};
        for (int n : there) {
            WordWar war = new WordWar();
            Due.law(war, "d10(h=" + n + "&i=0)");
            war.reserve(0, 3, n);
            war.reserve(0, 4, n - 1);
            Due.is(n + " are there", war.turn(), 1);
            Due.is(n + " were there", war.count(103), n - 1);
        }
    }

    private static void givenAndGotten() {
        WordWar war = new WordWar();
        Due.lexicon(war, 0, "al,dk");
        Due.lexicon(war, 1, "be,cf");
        Due.reserve(war, 0, "adef");
        Due.reserve(war, 1, "bckl");
        // Side 0 gives e or f and gets k or l.
        Due.law(war, "v1(1=1)");
        Due.is("four", war.exchange(0, 0), 4);
        Due.law(war, "v1(1=1);w1(x=4&i=0)");
        Due.is("f for k, f for l", war.exchange(0, 0), 2);
        Due.is("f", war.exchange(0, 1), 5);
        Due.is("asked by side 1", war.exchange(1, 0), 4);
        Due.law(war, "v1(1=1);w1(y=10&i=0)");
        Due.is("e for l, f for l", war.exchange(0, 0), 2);
        Due.is("l", war.exchange(0, 2), 11);
        Due.law(war, "v1(1=1);w1(x=10&i=1)");
        Due.is("asked by side 1: l for e, l for f", war.exchange(1, 0), 2);
        Due.is("asked by side 0", war.exchange(0, 0), 4);
        Due.law(war, "v1(1=1);w1(!(x=5&y=11))");
        Due.is("f for l alone", war.exchange(0, 0) * 10000 + war.exchange(0, 1) * 100 + war.exchange(0, 2), 10511);
    }

    private static void notTold() {
        comes("5+n+q+r+x+h+y", 5);
        String[] inD = {"m", "s", "n", "q", "r", "y"};
        for (String letter : inD) {
            WordWar war = new WordWar();
            Due.law(war, "d10(" + letter + "=0&i=0)");
            Due.reserve(war, 0, "bbbcc");
            Due.is("d: " + letter, war.turn(), 2);
        }
        String[] inF = {"x", "h", "y"};
        for (String letter : inF) {
            WordWar war = Due.armed("a", "a", "bc", "bc");
            Due.law(war, "f1(" + letter + "=0);p1(" + letter + "=0)");
            Due.reserve(war, 1, "bc");
            Due.orders(war, 0, "a>bc");
            Due.is("f: " + letter, war.count(17), 1);
            Due.is("p: " + letter, war.count(19), 1);
        }
        String[] inW = {"m", "s", "n", "q", "r", "h"};
        for (String letter : inW) {
            Due.is("w: " + letter, exchanges("1", letter), 1);
            Due.is("w: 1 + " + letter, exchanges("1", "1+" + letter), 0);
        }
    }

    // ---- refused

    private static void refusedInC() {
        Due.is("/ 1", worth("v1(1/1=1);v2(1=1)"), 1);
        Due.is("/ 0", worth("v1(1/0=0);v2(1=1)"), 2);
        Due.is("% 1", worth("v1(1%1=0);v2(1=1)"), 1);
        Due.is("% 0", worth("v1(1%0=0);v2(1=1)"), 2);
        Due.is("0 / 0", worth("v1(0/0=0);v2(1=1)"), 2);
        Due.is("0 % 0", worth("v1(0%0=0);v2(1=1)"), 2);
        Due.is("/ -1", worth("v1(1/[0-1]<0);v2(1=1)"), 1);
        Due.is("the divisor is reckoned", worth("v1(1/[m-3]=0);v2(1=1)"), 2);
        Due.is("on the right", worth("v1(0=1/0);v2(1=1)"), 2);
        Due.is("through !", worth("v1(!1/0=0);v2(1=1)"), 2);
        Due.is("through ! !", worth("v1(!!1/0=0);v2(1=1)"), 2);
        Due.is("through ( )", worth("v1((1/0=0));v2(1=1)"), 2);
        Due.is("through !( )", worth("v1(!(1/0=0));v2(1=1)"), 2);
        Due.is("through !(!( ))", worth("v1(!(!(1%0=0)));v2(1=1)"), 2);
        Due.is("through |", worth("v1(1/0=0|1=1);v2(1=1)"), 2);
        Due.is("through ( ) and |", worth("v1((1/0=0)|1=1);v2(1=1)"), 2);
        Due.is("through !( ) and |", worth("v1(!(1/0=0|1=1)|1=1);v2(1=1)"), 2);
        Due.is("behind an & that holds", worth("v1(1=1&1/0=0|1=1);v2(1=1)"), 2);
        Due.is("a clause behind it is asked anew", worth("v1(1/0=0);v2(1/0=0);v3(1=1)"), 3);
        Due.is("all of them", worth("v1(1/0=0);v2(0=1/0)"), 0);
        WordWar war = new WordWar();
        Due.lexicon(war, 0, "a");
        Due.law(war, "v1(1+1*[1+1*[1+1/0]]=0);v2(1=1)");
        for (int i = 0; i < 100; i++) {
            Due.is("again and again", war.word(0, 0, 4), 2);
        }
    }

    private static void refusedInE() {
        comes("1/1", 1);
        comes("5/0", 0);
        comes("5%0", 0);
        comes("0/0", 0);
        comes("5+5/0", 0);
        comes("5/0+5", 0);
        comes("5+[5/0]", 0);
        comes("5+0*[5%0]", 0);
        Due.is("no other clause is asked then", worth("v5/0(1=1);v6(1=1)"), 0);
        Due.is("of a clause that does not hold", worth("v5/0(1=2);v6(1=1)"), 6);
        WordWar war = Due.armed("a", "a", "bc", "bc");
        Due.law(war, "f1/x(1=1);p1(1=1)");
        Due.is("attack", Due.orders(war, 0, "a>bc"), 1);
        Due.is("f is 0", war.count(17), 0);
        Due.is("p is 1", war.count(19), 1);
    }

    private static void asMuchAsMatters() {
        Due.is("| behind what holds", worth("v1(1=1|1/0=0);v2(1=1)"), 1);
        Due.is("| behind what does not hold", worth("v1(1=2|1/0=0);v2(1=1)"), 2);
        Due.is("& behind what does not hold", worth("v1(1=2&1/0=0);v2(1=1)"), 2);
        Due.is("& behind what does not hold, then |", worth("v1(1=2&1/0=0|1=1);v2(1=1)"), 1);
        Due.is("& behind what holds, then |", worth("v1(1=1&1/0=0|1=1);v2(1=1)"), 2);
        Due.is("a second & behind what does not hold", worth("v1(1=1&1=2&1/0=0|1=1);v2(1=1)"), 1);
        Due.is("a second | behind what holds", worth("v1(1=2|1=1|1/0=0);v2(1=1)"), 1);
        Due.is("of a ( ) in !, &", worth("v1(!(1=2&1/0=0));v2(1=1)"), 1);
        Due.is("of a ( ) in !, |", worth("v1(!(1=1|1/0=0)|1=1);v2(1=1)"), 1);
        Due.is("behind a ( ) that holds", worth("v1((1=1)|1/0=0);v2(1=1)"), 1);
        Due.is("behind a ! that holds", worth("v1(!1=2|1/0=0);v2(1=1)"), 1);
        Due.is("behind a ! that does not hold", worth("v1(!1=1&1/0=0|1=1);v2(1=1)"), 1);
        Due.is("a clause behind the one that holds", worth("v1(1=1);v2(1/0=0)"), 1);
        Due.is("both sides of <", worth("v1(0<1/0);v2(1=1)"), 2);
    }

    // ---- faults

    private static void cantStandThere() {
        String law = "v1(1=1)";
        String[] signs = {" ", "\0", "\u00ff", "z", "A", ".", ",", ":", "?", "@", "`"};
        for (String sign : signs) {
            for (int at = 0; at < law.length(); at++) {
                fault(law.substring(0, at) + sign + law.substring(at + 1), -1000 - at);
            }
            fault(law + sign, -1007);
        }
        String whole = "v[1+t]*2(!1=1&(m<3|s>1))";
        for (int end = 1; end < whole.length(); end++) {
            fault(whole.substring(0, end), -1000 - end);
        }
        fault(whole, 1);
        WordWar war = new WordWar();
        Due.text(war, law);
        Due.is("the end, though the tape goes on", war.law(6), -1006);
        fault("v1(1=1))", -1007);
        fault("v1((1=1)", -1008);
        fault("v1(&1=1)", -1003);
        fault("v1(|1=1)", -1003);
        fault("v1(1=1&)", -1007);
        fault("v1(1=1|)", -1007);
        fault("v1(1=1&&1=1)", -1007);
        fault("v1(1=1!1=1)", -1006);
        fault("v1(())", -1004);
        fault("v1](1=1)", -1002);
        fault("v[1)(1=1)", -1003);
        fault("v(1)(1=1)", -1001);
    }

    private static void sixthDigit() {
        fault("v12345(1=1)", 1);
        fault("v123456(1=1)", -2006);
        fault("v1234567(1=1)", -2006);
        fault("v1+000000(1=1)", -2008);
        fault("v1(00000=1)", 1);
        fault("v1(000000=1)", -2008);
        fault("v1(1=99999)", 1);
        fault("v1(1=999999)", -2010);
        fault("v[123456](1=1)", -2007);
        fault("v12345[1](1=1)", -1006);
        fault("v12345+67890(1=1)", 1);
    }

    private static void fifteenthClause() {
        fault(FOURTEEN, 14);
        for (char letter = 0; letter < 256; letter++) {
            fault(FOURTEEN + ";" + letter, "fpvdw".indexOf(letter) >= 0 ? -4112 : -1112);
        }
        fault(FOURTEEN + ";", -1112);
        fault(FOURTEEN + ";;", -1112);
        fault(FOURTEEN + ";v1(1=1)", -4112);
        fault(FOURTEEN + "v", -1111);
    }

    private static void seventhOpen() {
        fault("v[[[[[[1]]]]]](1=1)", 1);
        fault("v[[[[[[[1]]]]]]](1=1)", -5007);
        fault("v1((((((1=1))))))", 1);
        fault("v1(((((((1=1)))))))", -5008);
        fault("v1(!!!!!1=1)", 1);
        fault("v1(!!!!!!1=1)", -5008);
        fault("v1([[[[[1]]]]]=1)", 1);
        fault("v1([[[[[[1]]]]]]=1)", -5008);
        fault("v1(1=[[[[[1]]]]])", 1);
        fault("v1(1=[[[[[[1]]]]]])", -5010);
        fault("v1((!(![1]=1)))", 1);
        fault("v1((!(!([1]=1))))", -5008);
        fault("v1((!(!!1=1)))", 1);
        fault("v1((!(!!!1=1)))", -5008);
        fault("v1((!(!(1=[1]))))", -5010);
        fault("v1((!(!(1=1))))", 1);
        fault("v[[[[[1]]]]]+[[[[[[1]]]]]](1=1)", 1);
        fault("v[[[[[1]]]]+[[1]]](1=1)", 1);
        fault("v[[[[[1]+[[1]]]]]](1=1)", 1);
        fault("v[[[[[1]+[[[1]]]]]]](1=1)", -5011);
        fault("v[[[[[[]", -1007);
        fault("v[[[[[[(", -1007);
        fault("v1((((((&", -1008);
    }

    private static void clauseCounts() {
        fault("v1(([[[[1]]]]=1))", 1);
        fault("v1(([[[[[1]]]]]=1))", -5008);
        fault("v1(([[[[1]]]]=1)&((((1=1)))));v1((((((1=1))))))", 2);
        fault("v1(1=1);v1(((((((1=1)))))))", -5016);
    }

    private static void notIsOpen() {
        fault("v1(!!!!!1=1&!!!!!1=1|!!!!!1=1)", 1);
        fault("v1(!!!!!1=1&!!!!!!1=1)", -5017);
        fault("v1(!!!!1=[1]&[[[[[1]]]]]=1)", 1);
        fault("v1(!!!!1=[[1]])", -5010);
        fault("v1(!!!![1]=[1])", 1);
        fault("v1(!!!(1=1&1=[1]))", 1);
        fault("v1(!!!(1=1&1=[[1]]))", -5014);
        fault("v1(!!!(1=1)&(((((1=1))))))", 1);
        fault("v1(!!!(1=1)&((((((1=1)))))))", -5017);
        fault("v1(!(!1=1&!!!1=1))", 1);
        fault("v1(!(!1=1&!!!!1=1))", -5013);
    }

    private static void numberAhead() {
        fault("v[[[[[[1]]]]]]((((((1=1))))))", 1);
        fault("v[[[[[[1]]]]]](((((((1=1)))))))", -5020);
        fault("v[[[[[[1]]]]]](1=1);v[[[[[[1]]]]]](1=1)", 2);
    }

    private static void firstFromTheLeft() {
        fault("v123456(1=1", -2006);
        fault("v1(1=1;v123456(1=1)", -1006);
        fault("v1(((((((1=123456", -5008);
        fault("v1(1=123456)&((((((((", -2010);
        fault(FOURTEEN + ";v123456(1=1)", -4112);
        fault("v123456(1=1);" + FOURTEEN, -2006);
        fault("v[[[[[[[123456", -5007);
    }
}
