/** Promises 22 to 26: fights, and the orders that are learnt from them. */
public final class LearningTest {
    public static void main(String[] args) {
        faults();
        refusals();
        nothingTold();
        most();
        learnt();
        contradicted();
        ahead();
        skirmish();
        onlyOne();
        forget();
        Due.end();
    }

    private static void faults() {
        WordWar war = new WordWar();
        String[] texts = {"abc", ">ab", "a>>", "a>b,", "a>b>c", "a,b", "m>a", "a>m", "abcdefghi>a", "a>abcdefghi",
            "a>bcdefgh+", "aaaaaaaaaaaaaaaaa", "ab>"};
        int[] due = {-1003, -1000, -1002, -1003, -1003, -1001, -1000, -1002, -3008, -3010, -1009, -3008, -1003};
        for (int i = 0; i < texts.length; i++) {
            Due.is("22: " + texts[i], Due.fight(war, texts[i]), due[i]);
            Due.is("22: empty then", war.count(2), 0);
        }
        Due.is("22: none was taken", war.count(4), 0);
        Due.is("22: the longest", Due.fight(war, "abcdefgh>abcdefgi"), 1);
    }

    private static void refusals() {
        WordWar war = new WordWar();
        Due.text(war, "a>b");
        Due.is("22: n 2", war.fight(2), -1);
        Due.is("22: n 18", war.fight(18), -1);
        Due.is("22: n -1", war.fight(-1), -1);
        Due.is("22: the tape stays", war.count(2), 20);
        Due.is("22: n 3", war.fight(3), 1);
        Due.is("22: not so many", war.fight(3), -1);
    }

    private static void nothingTold() {
        WordWar war = new WordWar();
        Due.is("22: like ones", Due.fight(war, "abc>abc"), -5000);
        Due.is("22: one begins with the other one", Due.fight(war, "abc>ab"), -5000);
        Due.is("22: the other way round", Due.fight(war, "a>abcdefgh"), -5000);
        Due.is("22: none was taken", war.count(4), 0);
        Due.is("22: empty then", war.count(2), 0);
    }

    private static void most() {
        WordWar war = new WordWar();
        for (int i = 1; i <= 24; i++) {
            Due.is("22: the same again", Due.fight(war, "a>b"), i);
        }
        Due.is("22: 24 are there", Due.fight(war, "a>b"), -4000);
        Due.is("22: nothing told, asked ahead", Due.fight(war, "a>a"), -5000);
        Due.is("22: a fault ahead", Due.fight(war, "a>b;"), -1003);
        Due.is("22: 24", war.count(4), 24);
    }

    private static void learnt() {
        WordWar war = new WordWar();
        Due.is("23: all", war.learnt(-1), 479001600L);
        for (int i = 0; i < 12; i++) {
            Due.is("23: a to l", war.learnt(i), i);
        }
        Due.is("23: place 12", war.learnt(12), -3);
        Due.is("23: place -2", war.learnt(-2), -3);
        Due.fight(war, "la>lb");
        Due.is("23: half", war.learnt(-1), 239500800L);
        Due.fight(war, "cc>ca");
        Due.fight(war, "ld>lc");
        Due.is("23: d, c, a, b", war.learnt(-1), 479001600L / 24);
        String first = "dcabefghijkl";
        for (int i = 0; i < 12; i++) {
            Due.is("23: " + first, war.learnt(i), first.charAt(i) - 'a');
        }
        Due.fight(war, "l>e");
        first = "dcabfghijkle";
        for (int i = 0; i < 12; i++) {
            Due.is("23: " + first, war.learnt(i), first.charAt(i) - 'a');
        }
    }

    private static void contradicted() {
        WordWar war = new WordWar();
        Due.fight(war, "a>b");
        Due.fight(war, "b>c");
        Due.fight(war, "c>a");
        Due.is("23: none", war.learnt(-1), 0);
        Due.is("23: there is none", war.learnt(0), -2);
        Due.is("23: there is none", war.learnt(11), -2);
        Due.is("23: no such place", war.learnt(12), -3);
        Due.is("24: none", war.ahead(0, 1), 0);
        Due.is("25: none", war.skirmish(2), -2);
    }

    private static void ahead() {
        WordWar war = new WordWar();
        Due.is("24: half", war.ahead(11, 0), 239500800L);
        Due.fight(war, "a>b");
        Due.is("24: all", war.ahead(0, 1), 239500800L);
        Due.is("24: none", war.ahead(1, 0), 0);
        Due.is("24: a is ahead in two of three", war.ahead(0, 5), 239500800L / 3 * 2);
        Due.is("24: b in one of three", war.ahead(1, 5), 239500800L / 3);
        Due.is("24: f ahead of b", war.ahead(5, 1), 239500800L / 3 * 2);
        Due.is("24: one twice", war.ahead(3, 3), -1);
        Due.is("24: letter 12", war.ahead(12, 0), -1);
        Due.is("24: letter -1", war.ahead(0, -1), -1);
    }

    private static void skirmish() {
        WordWar war = new WordWar();
        Due.is("25: a", war.skirmish(0), 0);
        Due.is("25: b", war.skirmish(1), 1);
        Due.is("25: half", war.skirmish(2), 239500800L);
        Due.is("25: what 3", war.skirmish(3), -1);
        Due.is("25: what -1", war.skirmish(-1), -1);
        Due.fight(war, "a>b");
        Due.is("25: c", war.skirmish(0), 2);
        Due.is("25: d", war.skirmish(1), 3);
        Due.is("25: half", war.skirmish(2), 119750400L);
        Due.fight(war, "c>d");
        Due.is("25: a", war.skirmish(0), 0);
        Due.is("25: c", war.skirmish(1), 2);
    }

    private static void onlyOne() {
        WordWar war = new WordWar();
        String row = "lkcbadefghij";
        for (int i = 0; i < 11; i++) {
            Due.fight(war, row.charAt(i) + ">" + row.charAt(i + 1));
        }
        Due.is("23: one", war.learnt(-1), 1);
        Due.is("23: l", war.learnt(0), 11);
        Due.is("24: one", war.ahead(11, 9), 1);
        for (int what = 0; what < 3; what++) {
            Due.is("25: none tells more", war.skirmish(what), -2);
        }
    }

    private static void forget() {
        WordWar war = new WordWar();
        Due.is("26: none", war.forget(), 0);
        Due.fight(war, "a>b");
        Due.fight(war, "b>a");
        Due.is("23: none", war.learnt(-1), 0);
        Due.is("26: two", war.forget(), 2);
        Due.is("26: none", war.count(4), 0);
        Due.is("23: all again", war.learnt(-1), 479001600L);
        Due.is("24: half again", war.ahead(0, 1), 239500800L);
        Due.is("22: one", Due.fight(war, "b>a"), 1);
    }
}
