import java.util.ArrayList;
import java.util.List;

/** The sentences of the third part of "Terms": fights, soldiers, the dead, what is kept, checked, refused. */
public final class EdgeLearningTest {
    private static final long ALL = 479001600L;

    public static void main(String[] args) throws Exception {
        Edge.begin(args);
        fights();
        soldiers();
        others();
        Edge.end();
    }

    private static void fights() {
        Edge.of(Edge.TERMS, "LEARNT: FIGHTS are told (24 at most)", EdgeLearningTest::manyFights);
        Edge.of(Edge.TERMS, "a WORD stood ahead of another one in a DICTIONARY: ORDERS by which all of them did: how many",
                EdgeLearningTest::howMany);
        Edge.of(Edge.TERMS, "the first one (by LETTERS a to l as numbers, the least row)", EdgeLearningTest::leastRow);
        Edge.of(Edge.TERMS, "how many have one LETTER ahead of another one", EdgeLearningTest::oneAhead);
        Edge.of(Edge.TERMS, "the SKIRMISH that tells most: two LETTERS (a lower, a higher one) for which the lesser of both ways is most",
                EdgeLearningTest::tellsMost);
        Edge.of(Edge.TERMS, "of like ones the lowest two.", EdgeLearningTest::lowestTwo);
    }

    private static void soldiers() {
        Edge.of(Edge.TERMS, "SOLDIERS 0 to 23 on a net of 16 by 16", EdgeLearningTest::rollAndNet);
        Edge.of(Edge.TERMS, "a PACE (1 to 9 steps in an HOUR, by x and y).", EdgeLearningTest::paces);
        Edge.of(Edge.TERMS, "A MARCH: a WORD forms from a PLACE on, to the right (x more) (within the net)", EdgeLearningTest::withinTheNet);
        Edge.of(Edge.TERMS, "each of its LETTERS by another SOLDIER of it", EdgeLearningTest::anotherSoldier);
        Edge.of(Edge.TERMS, "the fewest HOURS till all are there; who (of like ones the least row by the WORD's LETTERS).",
                EdgeLearningTest::fewestHours);
    }

    private static void others() {
        Edge.of(Edge.TERMS, "THE DEAD of a SIDE: its GRAVE by its ORDER in one line: which LETTER stands at a place",
                EdgeLearningTest::lineOfTheDead);
        Edge.of(Edge.TERMS, "how many are alike in a row at most.", EdgeLearningTest::alike);
        Edge.of(Edge.TERMS, "KEPT: RESERVES, GRAVES, PRISONERS, FIELDS, THE TURN, SOLDIERS, FIGHTS, X; UNDONE: as they were KEPT last",
                EdgeLearningTest::keptAndUndone);
        Edge.of(Edge.TERMS, "UNDONE: as they were KEPT last", EdgeLearningTest::keptLast);
        Edge.of(Edge.TERMS, "(WORDS that are not in their LEXICON any more are dissolved).", EdgeLearningTest::dissolved);
        Edge.of(Edge.TERMS, "CHECK of a SIDE: its RESERVE: right, or the first number that is not so.", EdgeLearningTest::firstWrongNumber);
        Edge.of(Edge.TERMS, "A call that is refused (NONE, false) changes nothing but the tape, where it is told.",
                EdgeLearningTest::refusedCalls);
        Edge.of(Edge.TERMS, "A call that is refused (NONE, false) changes nothing but the tape, where it is told.",
                EdgeLearningTest::refusedTexts);
        Edge.of(Edge.TERMS, "All memory is the armies' own.", EdgeLearningTest::twoObjects);
        Edge.of(Edge.TERMS, "All memory is the armies' own.", EdgeLearningTest::askedInAnyRow);
        Edge.of(Edge.TERMS, "The constants: `NONE = -1`: There is none.", () -> Due.is("NONE", WordWar.NONE, -1));
        Edge.of("What it is", "An object is used for at most 512 calls after it has been made", EdgeLearningTest::calls512);
    }

    // ---- fights

    private static void manyFights() {
        WordWar war = new WordWar();
        for (int i = 1; i <= 23; i++) {
            Due.is("fight " + i, Due.fight(war, "a>b"), i);
        }
        Due.is("the 24th", Due.fight(war, "b>c"), 24);
        Due.is("24", war.count(4), 24);
        Due.is("a, b, c", war.learnt(-1), ALL / 6);
        Due.is("the 25th", Due.fight(war, "c>d"), -4000);
        Due.is("still 24", war.count(4), 24);
        Due.is("still a, b, c", war.learnt(-1), ALL / 6);
        Due.is("forgotten", war.forget(), 24);
        Due.is("one again", Due.fight(war, "c>d"), 1);
    }

    private static void howMany() {
        WordWar war = new WordWar();
        Due.is("none told: all", war.learnt(-1), ALL);
        Due.fight(war, "abcdefgh>abcdefgi");
        Due.is("the eighth letter decides", war.ahead(7, 8), ALL / 2);
        Due.is("half of them", war.learnt(-1), ALL / 2);
        Due.fight(war, "h>i");
        Due.is("the same again", war.learnt(-1), ALL / 2);
        Due.fight(war, "l>a");
        Due.is("the first letter decides", war.learnt(-1), ALL / 4);
        Due.fight(war, "i>l");
        Due.is("h, i, l, a", war.learnt(-1), ALL / 24);
        Due.fight(war, "a>h");
        Due.is("round in a circle: none", war.learnt(-1), 0);
        war.forget();
        for (int i = 0; i < 10; i++) {
            Due.fight(war, (char) ('a' + i) + ">" + (char) ('b' + i));
        }
        Due.is("eleven in a row: twelve ways", war.learnt(-1), 12);
        Due.fight(war, "l>a");
        Due.is("all in a row: one", war.learnt(-1), 1);
        Due.is("l first", war.learnt(0), 11);
        Due.is("k last", war.learnt(11), 10);
        Due.fight(war, "k>l");
        Due.is("none", war.learnt(-1), 0);
    }

    private static void row(WordWar war, String due) {
        for (int i = 0; i < 12; i++) {
            Due.is(due + " at " + i, war.learnt(i), due.charAt(i) - 'a');
        }
    }

    private static void leastRow() {
        WordWar war = new WordWar();
        row(war, "abcdefghijkl");
        Due.fight(war, "b>a");
        row(war, "bacdefghijkl");
        Due.fight(war, "l>b");
        row(war, "cdefghijklba");
        Due.fight(war, "f>c");
        row(war, "defcghijklba");
        Due.fight(war, "a>d");
        row(war, "efcghijklbad");
        war.forget();
        Due.fight(war, "l>a");
        row(war, "bcdefghijkla");
        Due.order(war, 0, "lkjihgfedcba");
        row(war, "bcdefghijkla");
    }

    private static void oneAhead() {
        WordWar war = new WordWar();
        for (int a = 0; a < 12; a++) {
            for (int b = 0; b < 12; b += 5) {
                Due.is(a + " ahead of " + b, war.ahead(a, b), a == b ? -1 : ALL / 2);
            }
        }
        Due.fight(war, "c>b");
        Due.fight(war, "b>a");
        Due.is("c, a", war.ahead(2, 0), ALL / 6);
        Due.is("a, c", war.ahead(0, 2), 0);
        Due.is("c, l", war.ahead(2, 11), ALL / 6 / 4 * 3);
        Due.is("l, c", war.ahead(11, 2), ALL / 6 / 4);
        Due.is("b, l", war.ahead(1, 11), ALL / 6 / 2);
        Due.is("l, a", war.ahead(11, 0), ALL / 6 / 4 * 3);
        Due.fight(war, "a>c");
        Due.is("none: c, a", war.ahead(2, 0), 0);
        Due.is("none: k, l", war.ahead(10, 11), 0);
        Due.is("none, yet not told twice", war.ahead(11, 11), -1);
    }

    private static void skirmish(WordWar war, long lower, long higher, long ways) {
        Due.is("lower", war.skirmish(0), lower);
        Due.is("higher", war.skirmish(1), higher);
        Due.is("ways", war.skirmish(2), ways);
    }

    private static void tellsMost() {
        // Ten letters stand in a row, two are free: these two tell most.
        String[] rows = {"abcdefghij", "cdefghijkl", "lkjihgfedc", "acdefghijk"};
        int[] lower = {10, 0, 0, 1};
        int[] higher = {11, 1, 1, 11};
        for (int i = 0; i < rows.length; i++) {
            WordWar war = new WordWar();
            for (int k = 0; k < 9; k++) {
                Due.fight(war, rows[i].charAt(k) + ">" + rows[i].charAt(k + 1));
            }
            Due.is("132 orders", war.learnt(-1), 132);
            skirmish(war, lower[i], higher[i], 66);
        }
        WordWar war = new WordWar();
        for (int k = 0; k < 10; k++) {
            Due.fight(war, (char) ('a' + k) + ">" + (char) ('b' + k));
        }
        // l may stand anywhere in a to k: f is in the middle.
        Due.is("12 orders", war.learnt(-1), 12);
        skirmish(war, 5, 11, 6);
        Due.fight(war, "k>l");
        Due.is("1 order", war.learnt(-1), 1);
        skirmish(war, -2, -2, -2);
        Due.fight(war, "l>k");
        Due.is("no order", war.learnt(-1), 0);
        skirmish(war, -2, -2, -2);
        war.forget();
        skirmish(war, 0, 1, ALL / 2);
    }

    private static void lowestTwo() {
        WordWar war = new WordWar();
        skirmish(war, 0, 1, ALL / 2);
        Due.fight(war, "a>b");
        skirmish(war, 2, 3, ALL / 4);
        Due.fight(war, "c>d");
        skirmish(war, 0, 2, ALL / 8);
        war.forget();
        Due.fight(war, "d>b");
        skirmish(war, 0, 2, ALL / 4);
        war.forget();
        String[] told = {"c>a", "e>b"};
        for (String one : told) {
            Due.fight(war, one);
        }
        skirmish(war, 0, 1, ALL / 8);
        war.forget();
        // Nine letters stand in a row; j, k, l stand behind them in any order.
        String row = "abcdefghi";
        for (int k = 0; k < 8; k++) {
            Due.fight(war, row.charAt(k) + ">" + row.charAt(k + 1));
        }
        Due.fight(war, "i>j");
        Due.fight(war, "i>k");
        Due.fight(war, "i>l");
        Due.is("6 orders", war.learnt(-1), 6);
        skirmish(war, 9, 10, 3);
    }

    // ---- soldiers

    private static void rollAndNet() {
        WordWar war = new WordWar();
        int[] numbers = {-1, 0, 23, 24};
        boolean[] due = {false, true, true, false};
        for (int i = 0; i < 4; i++) {
            Due.is("soldier " + numbers[i], war.soldier(numbers[i], 0, 0, 0, 1), due[i]);
        }
        int[] places = {-1, 0, 15, 16};
        for (int i = 0; i < 4; i++) {
            Due.is("x " + places[i], war.soldier(5, 0, places[i], 3, 1), due[i]);
            Due.is("y " + places[i], war.soldier(6, 0, 3, places[i], 1), due[i]);
        }
        Due.is("four are told", war.count(5), 4);
        Due.lexicon(war, 0, "a");
        Due.is("5 is at (15, 3)", war.march(0, 0, 15, 3, 0), 5);
        Due.is("at once", war.march(0, 0, 15, 3, -1), 0);
        Due.is("6 is at (3, 15)", war.march(0, 0, 3, 15, 0), 6);
        Due.is("23 comes after 0", war.march(0, 0, 0, 0, 0), 0);
        war.soldier(0, 1, 0, 0, 1);
        Due.is("23", war.march(0, 0, 0, 0, 0), 23);
    }

    private static void paces() {
        for (int pace = 0; pace <= 10; pace++) {
            WordWar war = new WordWar();
            Due.lexicon(war, 0, "a");
            boolean is = pace >= 1 && pace <= 9;
            Due.is("pace " + pace, war.soldier(0, 0, 0, 0, pace), is);
            Due.is("told", war.count(5), is ? 1 : 0);
            for (int way = 0; way <= 30; way += 1) {
                int x = Math.min(15, way);
                int due = !is ? -2 : way % pace == 0 ? way / pace : way / pace + 1;
                Due.is(way + " steps by " + pace, war.march(0, 0, x, way - x, -1), due);
            }
        }
        WordWar war = new WordWar();
        Due.lexicon(war, 0, "a");
        war.soldier(0, 0, 15, 15, 9);
        Due.is("to the left and up", war.march(0, 0, 12, 8, -1), 2);
        Due.is("9 steps", war.march(0, 0, 10, 11, -1), 1);
        Due.is("10 steps", war.march(0, 0, 10, 10, -1), 2);
    }

    private static void withinTheNet() {
        WordWar war = new WordWar();
        Due.lexicon(war, 0, "a,aa,abcdefgh");
        for (int i = 0; i < 8; i++) {
            war.soldier(i, i, 8 + i, 15, 1);
        }
        war.soldier(8, 0, 9, 15, 1);
        int[] sizes = {1, 2, 8};
        for (int w = 0; w < 3; w++) {
            int last = 16 - sizes[w];
            Due.is("the last place", war.march(0, w, last, 15, -1) >= 0, true);
            Due.is("beyond it", war.march(0, w, last + 1, 15, -1), -3);
            Due.is("the first place", war.march(0, w, 0, 0, -1) >= 0, true);
            Due.is("ahead of it", war.march(0, w, -1, 0, -1), -3);
            Due.is("the last row", war.march(0, w, 0, 15, -1) >= 0, true);
            Due.is("beyond it", war.march(0, w, 0, 16, -1), -3);
            Due.is("ahead of the first row", war.march(0, w, 0, -1, -1), -3);
        }
        Due.is("to the right: all are there", war.march(0, 2, 8, 15, -1), 0);
        Due.is("h", war.march(0, 2, 8, 15, 7), 7);
        Due.is("one step to the left for each", war.march(0, 2, 7, 15, -1), 1);
        Due.is("not downwards", war.march(0, 1, 8, 14, -1), 1);
    }

    private static void anotherSoldier() {
        WordWar war = new WordWar();
        Due.lexicon(war, 0, "aaaaaaaa,ab");
        for (int i = 0; i < 7; i++) {
            war.soldier(3 * i, 0, i, 0, 1);
        }
        Due.is("seven for eight letters", war.march(0, 0, 0, 0, -1), -2);
        Due.is("who, then", war.march(0, 0, 0, 0, 7), -2);
        war.soldier(1, 1, 7, 0, 1);
        Due.is("the eighth is of another letter", war.march(0, 0, 0, 0, -1), -2);
        war.soldier(1, 0, 7, 0, 1);
        Due.is("eight", war.march(0, 0, 0, 0, -1), 0);
        for (int k = 0; k < 7; k++) {
            Due.is("letter " + k, war.march(0, 0, 0, 0, k), 3 * k);
        }
        Due.is("the last letter", war.march(0, 0, 0, 0, 7), 1);
        Due.is("no b", war.march(0, 1, 0, 0, -1), -2);
        war.soldier(23, 1, 15, 15, 9);
        Due.is("a b", war.march(0, 1, 0, 0, 1), 23);
        Due.is("29 steps by 9", war.march(0, 1, 0, 0, -1), 4);
    }

    private static void fewestHours() {
        WordWar war = new WordWar();
        Due.lexicon(war, 0, "aa,a");
        war.soldier(0, 0, 0, 0, 1);
        war.soldier(1, 0, 4, 0, 1);
        // At (1, 0) and (2, 0): 0 and 1 need 1 and 2, or 2 and 3.
        Due.is("hours", war.march(0, 0, 1, 0, -1), 2);
        Due.is("0 first", war.march(0, 0, 1, 0, 0), 0);
        Due.is("then 1", war.march(0, 0, 1, 0, 1), 1);
        war.soldier(0, 0, 4, 0, 1);
        war.soldier(1, 0, 0, 0, 1);
        Due.is("hours", war.march(0, 0, 1, 0, -1), 2);
        Due.is("1 first, though that row is not the least", war.march(0, 0, 1, 0, 0), 1);
        Due.is("then 0", war.march(0, 0, 1, 0, 1), 0);
        war.soldier(0, 0, 3, 2, 2);
        // 0 needs 2 hours to either place, 1 needs 1 or 2: both rows take 2.
        Due.is("hours", war.march(0, 0, 1, 0, -1), 2);
        Due.is("the least row: 0", war.march(0, 0, 1, 0, 0), 0);
        Due.is("the least row: 1", war.march(0, 0, 1, 0, 1), 1);
        war.soldier(7, 0, 1, 0, 1);
        Due.is("with 7", war.march(0, 0, 1, 0, -1), 1);
        Due.is("1 comes to the first place", war.march(0, 0, 1, 0, 0), 1);
        Due.is("7 goes to the second", war.march(0, 0, 1, 0, 1), 7);
        war.soldier(5, 0, 15, 15, 1);
        Due.is("one who would come too late", war.march(0, 1, 0, 0, 0), 1);
        Due.is("at once", war.march(0, 1, 0, 0, -1), 0);
        // In an hour 0 comes to places 1 to 3, 1 to 0 to 2, 2 to 0 alone, 3 to 1 alone.
        war = new WordWar();
        Due.lexicon(war, 0, "aaaa");
        int[][] places = {{2, 0}, {1, 0}, {0, 1}, {1, 1}};
        for (int i = 0; i < 4; i++) {
            war.soldier(i, 0, places[i][0], places[i][1], 1);
        }
        Due.is("hours", war.march(0, 0, 0, 0, -1), 1);
        int[] due = {2, 3, 1, 0};
        for (int k = 0; k < 4; k++) {
            Due.is("letter " + k, war.march(0, 0, 0, 0, k), due[k]);
        }
        war.soldier(4, 0, 0, 0, 1);
        Due.is("4 is there, but 2 is the lesser one", war.march(0, 0, 0, 0, 0), 2);
        war.soldier(2, 1, 0, 1, 1);
        due[0] = 4;
        for (int k = 0; k < 4; k++) {
            Due.is("without 2: letter " + k, war.march(0, 0, 0, 0, k), due[k]);
        }
    }

    // ---- the dead, kept, checked

    private static void lineOfTheDead() {
        WordWar war = Due.armed("a", "a", "lkab,b", "lkab,b");
        Due.is("none", war.dead(1, -1), 0);
        Due.is("no place 0", war.dead(1, 0), -3);
        Due.law(war, "f8(1=1)");
        Due.is("attacks", Due.orders(war, 0, "a>lkab;a>b"), 2);
        Due.is("five", war.dead(1, -1), 5);
        String[] orders = {"abcdefghijkl", "lkjihgfedcba", "bacdefghijlk", "cdefghijklab"};
        String[] lines = {"abbkl", "lkbba", "bbalk", "klabb"};
        for (int i = 0; i < orders.length; i++) {
            Due.order(war, 1, orders[i]);
            for (int k = 0; k < 5; k++) {
                Due.is(lines[i] + " at " + k, war.dead(1, k), lines[i].charAt(k) - 'a');
            }
            Due.is("behind " + lines[i], war.dead(1, 5), -3);
        }
        Due.is("not side 0's", war.dead(0, 0), -3);
    }

    private static void alike() {
        WordWar war = Due.armed("a", "a", "bbc,cb,l,bcb", "bbc,cb,l,bcb");
        Due.law(war, "f8(1=1)");
        Due.is("none", war.dead(1, -2), 0);
        Due.orders(war, 0, "a>l");
        Due.is("one", war.dead(1, -2), 1);
        Due.orders(war, 0, "a>cb");
        Due.is("three, none alike", war.dead(1, -2), 1);
        Due.orders(war, 0, "a>bbc");
        Due.is("b, b, b, c, c, l", war.dead(1, -2), 3);
        Due.order(war, 1, "cabdefghijkl");
        Due.is("by any order", war.dead(1, -2), 3);
        Due.orders(war, 0, "a>bcb");
        Due.is("five b", war.dead(1, -2), 5);
        Due.is("nine", war.dead(1, -1), 9);
        Due.is("none of side 0", war.dead(0, -2), 0);
        war = Due.armed("a", "a", "aaa,l", "aaa,l");
        Due.law(war, "p8(m=3);f8(m=1)");
        war.reserve(1, 0, 9);
        Due.is("attacks", Due.orders(war, 0, "a>aaa;a>l"), 2);
        Due.is("prisoners are not dead", war.count(172), 3);
        Due.is("an l alone", war.dead(1, -2), 1);
        Due.is("an l alone", war.dead(1, -1), 1);
        Due.is("an l alone", war.dead(1, 0), 11);
    }

    private static WordWar keeper() {
        WordWar war = Due.armed("ab,c", "ab,c", "bb,d", "bb,d");
        Due.law(war, "f1(1=1);p1(1=1);d10(i=0)");
        Due.is("attack", Due.orders(war, 0, "ab>bb;c>d;c>d"), 2);
        war.reserve(0, 5, 7);
        war.reserve(1, 6, 999);
        war.turn();
        war.soldier(0, 2, 1, 1, 1);
        war.soldier(23, 0, 15, 15, 9);
        Due.fight(war, "b>a");
        return war;
    }

    private static void keptAndUndone() {
        WordWar war = keeper();
        String before = Due.state(war);
        Due.is("letters in both", war.keep(), 6 + 1 + 999);
        Due.orders(war, 1, "ab>bb");
        Due.orders(war, 0, "-ab;-c;+c");
        war.reserve(1, 6, 0);
        war.reserve(0, 11, 500);
        war.turn();
        war.soldier(0, 1, 3, 3, 3);
        war.soldier(7, 1, 3, 3, 3);
        Due.fight(war, "a>b");
        war.seed(5);
        Due.is("none", war.learnt(-1), 0);
        Due.is("none", war.ahead(1, 0), 0);
        war.forget();
        Due.fight(war, "l>k");
        Due.is("another one", war.ahead(11, 10), ALL / 2);
        Due.is("undone", war.undo(), true);
        Due.same("as kept", Due.state(war), before);
        Due.is("learnt", war.learnt(-1), ALL / 2);
        Due.is("learnt", war.ahead(1, 0), ALL / 2);
        Due.is("soldier 0 is a c at (1, 1)", war.march(0, 1, 1, 1, -1), 0);
        Due.is("the tape stays", war.count(2), 0);
    }

    private static void keptLast() {
        WordWar war = new WordWar();
        Due.is("none was kept", war.undo(), false);
        war.reserve(0, 0, 1);
        Due.is("none was kept", war.undo(), false);
        Due.is("it stays", war.count(100), 1);
        Due.is("kept", war.keep(), 1);
        Due.is("undone", war.undo(), true);
        war.reserve(0, 0, 2);
        Due.is("undone again", war.undo(), true);
        Due.is("as kept", war.count(100), 1);
        war.reserve(0, 0, 3);
        Due.is("kept again", war.keep(), 3);
        war.reserve(0, 0, 4);
        Due.is("undone", war.undo(), true);
        Due.is("as kept last", war.count(100), 3);
        Due.is("undone twice", war.undo(), true);
        Due.is("still as kept last", war.count(100), 3);
    }

    private static void dissolved() {
        WordWar war = Due.armed("ab,c,d", "ab,c,d", "ee", "ee");
        war.reserve(0, 1, 998);
        war.reserve(1, 4, 998);
        Due.is("kept", war.keep(), 1996);
        war.reserve(0, 1, 5);
        Due.is("d and ab are new; c is not there", Due.lexicon(war, 0, "d,l,ab"), 3);
        Due.is("another one", Due.lexicon(war, 1, "e"), 1);
        Due.is("undone", war.undo(), true);
        Due.is("d and ab stand by their new numbers", war.count(12), 5);
        Due.is("c is in the reserve", war.count(102), 1);
        Due.is("b as it was kept", war.count(101), 998);
        Due.is("none of side 1 stands", war.count(13), 0);
        Due.is("two to 998: one is lost", war.count(116), 999);
        Due.is("a lexicon without ab", Due.lexicon(war, 0, "c,d"), 2);
        Due.is("undone again", war.undo(), true);
        Due.is("c and d stand", war.count(12), 3);
        Due.is("a", war.count(100), 1);
        Due.is("b", war.count(101), 999);
        Due.is("no c", war.count(102), 0);
        Due.is("the lexicon is not undone", war.count(10), 2);
    }

    private static void feedNumbers(WordWar war, int[] numbers) {
        for (int i = 0; i < numbers.length; i += 5) {
            int[] five = new int[5];
            System.arraycopy(numbers, i, five, 0, Math.min(5, numbers.length - i));
            war.feed(five[0], five[1], five[2], five[3], five[4]);
        }
    }

    private static void firstWrongNumber() {
        WordWar war = new WordWar();
        int[] right = new int[12];
        for (int letter = 0; letter < 12; letter++) {
            right[letter] = letter == 3 ? 0 : letter == 4 ? 999 : 100 * letter;
            war.reserve(1, letter, Math.min(999, right[letter]));
            right[letter] = Math.min(999, right[letter]);
        }
        feedNumbers(war, right);
        Due.is("right", war.check(1, 12), -1);
        for (int letter = 0; letter < 12; letter++) {
            int[] wrong = right.clone();
            wrong[letter]++;
            feedNumbers(war, wrong);
            Due.is("one more at " + letter, war.check(1, 12), letter);
            wrong[letter] -= 2;
            wrong[11] -= letter == 11 ? 0 : 1;
            feedNumbers(war, wrong);
            Due.is("one less at " + letter + " and one at the end", war.check(1, 12), letter);
            feedNumbers(war, wrong);
            Due.is("not asked so far", war.check(1, letter), -1);
            wrong[letter] = right[letter] | 0x80000000;
            feedNumbers(war, wrong);
            Due.is("four bytes at " + letter, war.check(1, letter + 1), letter);
        }
        Due.is("the reserve stays", war.count(116), 999);
    }

    // ---- refused

    private static List<Runnable> refusals(WordWar war) {
        List<Runnable> calls = new ArrayList<>();
        calls.add(() -> Due.is("strength", war.strength(0, 100), false));
        calls.add(() -> Due.is("strength", war.strength(12, 5), false));
        calls.add(() -> Due.is("reserve", war.reserve(0, 0, 1000), false));
        calls.add(() -> Due.is("reserve", war.reserve(2, 0, 5), false));
        calls.add(() -> Due.is("exchanged", war.exchanged(0, 0, 0), false));
        calls.add(() -> Due.is("exchanged", war.exchanged(0, 0, 11), false));
        calls.add(() -> Due.is("exchanged", war.exchanged(0, 11, 0), false));
        calls.add(() -> Due.is("home", war.home(3, 1), false));
        calls.add(() -> Due.is("home", war.home(0, 0), false));
        calls.add(() -> Due.is("soldier", war.soldier(0, 5, 16, 0, 1), false));
        calls.add(() -> Due.is("soldier", war.soldier(0, 5, 0, 0, 10), false));
        calls.add(() -> Due.is("seed", war.seed(65536), false));
        calls.add(() -> Due.is("best", war.best(0, 2), -1));
        calls.add(() -> Due.is("against", war.against(2, 0), -1));
        calls.add(() -> Due.is("atOnce", war.atOnce(3), -1));
        calls.add(() -> Due.is("exchange", war.exchange(0, 4), -1));
        calls.add(() -> Due.is("peace", war.peace(9, 9, 0), -1));
        calls.add(() -> Due.is("spy", war.spy(0, 9, 0), -1));
        calls.add(() -> Due.is("march", war.march(0, 0, 15, 15, -1), -3));
        calls.add(() -> Due.is("count", war.count(232), -1));
        return calls;
    }

    private static void refusedCalls() {
        WordWar war = keeper();
        Due.text(war, "ab");
        String before = Due.state(war);
        for (Runnable call : refusals(war)) {
            call.run();
        }
        Due.is("undo", war.undo(), false);
        Due.same("nothing has changed", Due.state(war), before);
        Due.is("nor the tape", war.count(2), 20);
        Due.is("nor soldier 0", war.march(0, 1, 1, 1, -1), 0);
    }

    private static void refusedTexts() {
        WordWar war = keeper();
        String before = Due.state(war);
        Due.text(war, "ab");
        Due.is("lexicon", war.lexicon(0, 21), -1);
        Due.is("law", war.law(21), -1);
        Due.is("orders", war.orders(0, 21), -1);
        Due.is("judged", war.judged(0, 21), -1);
        Due.is("fight", war.fight(18), -1);
        Due.is("check", war.check(0, 6), -2);
        Due.is("order", war.order(2), false);
        Due.is("the tape stays", war.count(2), 20);
        Due.is("feed", war.feed(0, 0, 0, 0, 0), 40);
        Due.is("order", war.order(0), false);
        Due.is("the tape is empty", war.count(2), 0);
        Due.is("lexicon", Due.lexicon(war, 0, "a,a"), -6002);
        Due.is("law", Due.law(war, "f1(1=1);x"), -1008);
        Due.is("orders", Due.orders(war, 0, "-ab;-c;-"), -1008);
        Due.is("judged", Due.judged(war, 0, "-ab;-c;-"), -1008);
        Due.is("judged", Due.judged(war, 0, "-c"), 1);
        Due.is("fight", Due.fight(war, "a>b>"), -1003);
        Due.is("fight", Due.fight(war, "a>ab"), -5000);
        Due.same("nothing has changed", Due.state(war), before);
    }

    private static void twoObjects() {
        WordWar alone = keeper();
        alone.keep();
        alone.turn();
        WordWar one = keeper();
        WordWar other = keeper();
        one.keep();
        other.reserve(0, 3, 77);
        other.keep();
        Due.law(other, "d1(1=1)");
        Due.lexicon(other, 0, "l");
        Due.order(other, 1, "lkjihgfedcba");
        other.strength(2, 50);
        other.forget();
        other.seed(4);
        other.feed(0, 0, 0, 0, 0);
        one.turn();
        Due.same("the other one changes nothing", Due.state(one), Due.state(alone));
        Due.is("nor its tape", one.count(2), 0);
        Due.is("undone", one.undo(), true);
        alone.undo();
        Due.same("nor what is kept", Due.state(one), Due.state(alone));
    }

    /** One of the calls that only ask. */
    private static long ask(WordWar war, int call) {
        switch (call) {
            case 0:
                return war.best(0, 1);
            case 1:
                return war.best(1, 1);
            case 2:
                return war.against(0, 1);
            case 3:
                return war.atOnce(0);
            case 4:
                return war.exchange(0, 3);
            case 5:
                return war.exchange(1, 1);
            case 6:
                return war.spy(0, 0, 0);
            case 7:
                return war.spy(0, 0, 2);
            case 8:
                return war.spy(1, 0, 1);
            case 9:
                return war.peace(0, 1, 20);
            case 10:
                return war.learnt(-1);
            case 11:
                return war.skirmish(1);
            case 12:
                return war.ahead(3, 2);
            case 13:
                return war.march(0, 0, 0, 0, -1);
            default:
                return war.word(0, 1, 4);
        }
    }

    private static void askedInAnyRow() {
        int calls = 15;
        long[] answers = new long[calls];
        for (int call = 0; call < calls; call++) {
            answers[call] = ask(asked(), call);
        }
        WordWar war = asked();
        String before = Due.state(war);
        for (int step = 1; step < 8; step++) {
            for (int i = 0; i < calls; i++) {
                int call = i * step % calls;
                Due.is("call " + call + ", step " + step, ask(war, call), answers[call]);
            }
        }
        Due.same("nothing has changed", Due.state(war), before);
    }

    private static WordWar asked() {
        WordWar war = Due.armed("ab,aa,abc,c,d", "d", "ab,b,abb,bb,cb", "cb");
        Due.law(war, "v1/[i-1]+s(s>1);vm(1=1);w1(x=0)");
        Due.reserve(war, 0, "aaaabbcc");
        Due.reserve(war, 1, "abbbc");
        war.strength(2, 4);
        Due.fight(war, "d>c");
        war.soldier(3, 0, 4, 4, 2);
        war.soldier(4, 1, 4, 4, 2);
        return war;
    }

    private static void calls512() {
        WordWar war = new WordWar();
        for (int i = 0; i < 510; i++) {
            war.turn();
        }
        Due.is("the 511th call", war.turn(), 0);
        Due.is("the 512th call", war.count(0), 511);
    }
}
