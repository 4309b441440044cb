/** Promises 27 to 29: soldiers who march into a word, and the long line of the dead. */
public final class MarchTest {
    public static void main(String[] args) {
        soldier();
        march();
        marchRows();
        marchLimits();
        dead();
        Due.end();
    }

    private static void soldier() {
        WordWar war = new WordWar();
        Due.is("27: the first", war.soldier(0, 0, 0, 0, 1), true);
        Due.is("27: the last", war.soldier(23, 11, 15, 15, 9), true);
        Due.is("27: in place of the one before", war.soldier(0, 1, 3, 3, 2), true);
        Due.is("27: two", war.count(5), 2);
        int[][] wrong = {{-1, 0, 0, 0, 1}, {24, 0, 0, 0, 1}, {1, -1, 0, 0, 1}, {1, 12, 0, 0, 1}, {1, 0, -1, 0, 1},
            {1, 0, 16, 0, 1}, {1, 0, 0, -1, 1}, {1, 0, 0, 16, 1}, {1, 0, 0, 0, 0}, {1, 0, 0, 0, 10}};
        for (int[] w : wrong) {
            Due.is("27: no such one", war.soldier(w[0], w[1], w[2], w[3], w[4]), false);
        }
        Due.is("27: two", war.count(5), 2);
        Due.lexicon(war, 0, "b,a");
        Due.is("28: the new one", war.march(0, 0, 3, 3, 0), 0);
        Due.is("28: the one before is gone", war.march(0, 1, 3, 3, 0), -2);
    }

    private static void march() {
        WordWar war = new WordWar();
        Due.lexicon(war, 1, "aab");
        war.soldier(5, 0, 0, 0, 1);
        war.soldier(3, 0, 4, 2, 3);
        Due.is("28: no b", war.march(1, 0, 2, 2, -1), -2);
        Due.is("28: no b", war.march(1, 0, 2, 2, 0), -2);
        war.soldier(9, 1, 4, 9, 3);
        // 3 is at (4, 2), 5 at (0, 0), 9 at (4, 9): to (2, 2), (3, 2), (4, 2): 7 steps are 3 hours.
        Due.is("28: hours", war.march(1, 0, 2, 2, -1), 4);
        Due.is("28: 5 goes the shorter way", war.march(1, 0, 2, 2, 0), 5);
        Due.is("28: 3", war.march(1, 0, 2, 2, 1), 3);
        Due.is("28: 9", war.march(1, 0, 2, 2, 2), 9);
        war.soldier(5, 0, 0, 0, 4);
        Due.is("28: 9 is the last to come", war.march(1, 0, 2, 2, -1), 3);
        Due.is("28: of like ones the least row", war.march(1, 0, 2, 2, 0), 3);
        Due.is("28: of like ones the least row", war.march(1, 0, 2, 2, 1), 5);
    }

    private static void marchRows() {
        WordWar war = new WordWar();
        Due.lexicon(war, 0, "aaaa,a");
        war.soldier(0, 0, 3, 0, 1);
        war.soldier(1, 0, 2, 0, 1);
        war.soldier(2, 0, 1, 0, 1);
        war.soldier(3, 0, 0, 0, 1);
        Due.is("28: all are there", war.march(0, 0, 0, 0, -1), 0);
        for (int k = 0; k < 4; k++) {
            Due.is("28: each at his place", war.march(0, 0, 0, 0, k), 3 - k);
        }
        war.soldier(4, 0, 0, 3, 9);
        Due.is("28: all are there", war.march(0, 0, 0, 0, -1), 0);
        Due.is("28: the first one of like ones", war.march(0, 1, 15, 15, 0), 4);
        Due.is("28: hours", war.march(0, 1, 15, 15, -1), 3);
        war.soldier(3, 1, 0, 0, 9);
        Due.is("28: without 3", war.march(0, 0, 0, 0, -1), 1);
        // In one hour 4 comes anywhere, the others one step: 2 to the first place, then 1, 0 and 4.
        int[] due = {2, 1, 0, 4};
        for (int k = 0; k < 4; k++) {
            Due.is("28: the least row", war.march(0, 0, 0, 0, k), due[k]);
        }
    }

    private static void marchLimits() {
        WordWar war = new WordWar();
        Due.lexicon(war, 0, "abcdefgh");
        for (int i = 0; i < 8; i++) {
            war.soldier(23 - i, i, 15, 15, 1);
        }
        Due.is("28: the longest way", war.march(0, 0, 0, 0, -1), 30);
        Due.is("28: h", war.march(0, 0, 0, 0, 7), 16);
        Due.is("28: to the edge", war.march(0, 0, 8, 15, -1), 7);
        Due.is("28: beyond the net", war.march(0, 0, 9, 15, -1), -3);
        Due.is("28: x -1", war.march(0, 0, -1, 0, -1), -3);
        Due.is("28: x 16", war.march(0, 0, 16, 0, -1), -3);
        Due.is("28: y -1", war.march(0, 0, 0, -1, -1), -3);
        Due.is("28: y 16", war.march(0, 0, 0, 16, -1), -3);
        Due.is("28: x is huge", war.march(0, 0, Integer.MAX_VALUE, 0, -1), -3);
        Due.is("28: letter 8", war.march(0, 0, 0, 0, 8), -3);
        Due.is("28: letter -2", war.march(0, 0, 0, 0, -2), -3);
        Due.is("28: w 1", war.march(0, 1, 0, 0, -1), -3);
        Due.is("28: w -1", war.march(0, -1, 0, 0, -1), -3);
        Due.is("28: side 1 has none", war.march(1, 0, 0, 0, -1), -3);
        Due.is("28: side 2", war.march(2, 0, 0, 0, -1), -3);
    }

    private static void dead() {
        WordWar war = new WordWar();
        Due.is("29: none", war.dead(0, -1), 0);
        Due.is("29: none alike", war.dead(0, -2), 0);
        Due.is("29: no place", war.dead(0, 0), -3);
        Due.lexicon(war, 0, "bbcaa");
        Due.lexicon(war, 1, "a");
        Due.reserve(war, 0, "bbcaa");
        Due.reserve(war, 1, "a");
        Due.law(war, "f8(1=1)");
        Due.orders(war, 0, "+bbcaa");
        Due.orders(war, 1, "+a;a>bbcaa");
        Due.is("29: five", war.dead(0, -1), 5);
        Due.is("29: two alike", war.dead(0, -2), 2);
        String line = "aabbc";
        for (int i = 0; i < 5; i++) {
            Due.is("29: " + line, war.dead(0, i), line.charAt(i) - 'a');
        }
        Due.order(war, 0, "cbadefghijkl");
        line = "cbbaa";
        for (int i = 0; i < 5; i++) {
            Due.is("29: by its order " + line, war.dead(0, i), line.charAt(i) - 'a');
        }
        Due.is("29: place 5", war.dead(0, 5), -3);
        Due.is("29: place -3", war.dead(0, -3), -3);
        Due.is("29: side 2", war.dead(2, -1), -3);
        Due.is("29: side -1", war.dead(-1, -1), -3);
        Due.is("29: side 1 has none", war.dead(1, -1), 0);
    }
}
