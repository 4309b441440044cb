import java.util.ArrayList;
import java.util.List;
import java.util.Random;

/** Long runs of calls by fixed seeds, each answer held against the plain model's. */
public final class RandomRunsTest {
    private static final String[] LAWS = {
        "vs(1=1)", "vm*7%5+s(1=1)", "v1(m<3);v5(m=3);v9(m>3)", "f1(1=1);p1(1=1)", "f1(r<5);p1(r>3);f2(1=1)",
        "fr%3(1=1);pr/4(i=0);p1(i=1)", "d5(h>1)", "d3(1=1);vs(1=1);f1(1=1)", "w2(x<y);vs*m(1=1)",
        "vs(1=1);w1(x>y|y=2)", "d10(x=i);d2(t>2)", "v100-s(m>1);v3(1=1)", "f8(n>m);p8(q>s);f1(1=1)",
    };

    private final Random random;
    private final WordWar war = new WordWar();
    private final PlainWar plain = new PlainWar();
    private final List<String> calls = new ArrayList<>();
    private final int letters;
    private final int longest;
    private final int firstCount;

    private RandomRunsTest(long seed) {
        firstCount = (int) (30 * seed);
        random = new Random(seed);
        letters = seed % 5 == 0 ? 12 : 3 + random.nextInt(3);
        longest = seed % 3 == 0 ? 8 : 2 + random.nextInt(3);
    }

    public static void main(String[] args) {
        int runs = args.length > 1 ? Integer.parseInt(args[1]) : 150;
        for (int seed = 1; seed <= runs && Due.wrongOnes() == 0; seed++) {
            new RandomRunsTest(seed).run();
        }
        Due.end();
    }

    private void run() {
        int before = Due.wrongOnes();
        begin();
        while (calls.size() < 450 && Due.wrongOnes() == before) {
            oneCall();
        }
        // An object is used for 512 calls at most: each run counts another part of all that can be counted.
        for (int i = 0; i < 40 && Due.wrongOnes() == before; i++) {
            int what = (firstCount + i) % 235 - 1;
            due("count(" + what + ")", war.count(what), plain.count(what));
        }
        Due.is("at most 512 calls", calls.size() <= 512, true);
        if (Due.wrongOnes() != before) {
            for (String call : calls) {
                System.out.println("  " + call);
            }
        }
    }

    /** Most runs begin with two armies that can do something. */
    private void begin() {
        if (upTo(10) == 0) {
            return;
        }
        for (int side = 0; side < 2; side++) {
            int n = feed(newLexicon(side));
            due("lexicon(" + side + ", " + n + ")", war.lexicon(side, n), plain.lexicon(side, n));
            for (int letter = 0; letter < letters; letter++) {
                int there = upTo(2 + longest);
                due("reserve(" + side + ", " + letter + ", " + there + ")",
                        war.reserve(side, letter, there), plain.reserve(side, letter, there));
            }
        }
        int n = feed(newLaw());
        due("law(" + n + ")", war.law(n), plain.law(n));
    }

    private void due(String call, long got, long want) {
        calls.add(call + " = " + want);
        Due.is(call, got, want);
    }

    private void due(String call, boolean got, boolean want) {
        due(call, got ? 1 : 0, want ? 1 : 0);
    }

    private int upTo(int n) {
        return random.nextInt(n);
    }

    /** Mostly from 0 on below n, now and then a bit beyond it. */
    private int around(int n) {
        return upTo(12) == 0 ? upTo(n + 4) - 2 : upTo(n);
    }

    private int aside() {
        return upTo(20) == 0 ? upTo(5) - 2 : upTo(2);
    }

    // ---- texts

    private String newWord() {
        StringBuilder word = new StringBuilder();
        int size = 1 + upTo(longest);
        for (int i = 0; i < size; i++) {
            word.append((char) ('a' + upTo(letters)));
        }
        return word.toString();
    }

    private String kin(String word) {
        switch (upTo(4)) {
            case 0:
                return new StringBuilder(word).reverse().toString();
            case 1:
                return word.substring(0, 1 + upTo(word.length()));
            case 2:
                int k = upTo(word.length());
                return word.substring(0, k) + (char) ('a' + upTo(letters)) + word.substring(k + 1);
            default:
                return newWord();
        }
    }

    private String newLexicon(int side) {
        List<String> words = new ArrayList<>();
        int size = 1 + upTo(upTo(10) == 0 ? 14 : 12);
        for (int tries = 0; words.size() < size && tries < 60; tries++) {
            String word;
            if (!plain.words(side).isEmpty() && upTo(3) == 0) {
                word = plain.words(side).get(upTo(plain.words(side).size()));
            } else {
                word = words.isEmpty() || upTo(2) == 0 ? newWord() : kin(words.get(upTo(words.size())));
            }
            if (!words.contains(word) || upTo(60) == 0) {
                words.add(word);
            }
        }
        return String.join(",", words);
    }

    private String someWord(int side, boolean standing) {
        List<String> words = standing ? plain.standing(side) : plain.words(side);
        return words.isEmpty() || upTo(12) == 0 ? newWord() : words.get(upTo(words.size()));
    }

    private String newAct(int side) {
        int s = side == 1 ? 1 : 0;
        switch (upTo(plain.standing(s).size() < 3 ? 4 : 9)) {
            case 0:
            case 1:
            case 2:
                return "+" + someWord(s, false);
            case 3:
                return (upTo(3) == 0 ? "-" : "~") + someWord(s, true);
            case 4:
                String word = someWord(1 - s, true);
                int k = upTo(15) == 0 ? upTo(10) : 1 + upTo(word.length());
                char to = (char) ('a' + upTo(letters));
                for (String other : plain.words(1 - s)) {
                    if (other.length() == word.length() && k >= 1 && k <= word.length() && upTo(2) == 0) {
                        to = other.charAt(k - 1);
                    }
                }
                return "?" + word + "." + k + to;
            default:
                return someWord(s, true) + ">" + someWord(1 - s, true);
        }
    }

    private String newOrders(int side) {
        List<String> acts = new ArrayList<>();
        int size = 1 + upTo(upTo(15) == 0 ? 14 : 6);
        for (int i = 0; i < size; i++) {
            acts.add(newAct(side));
        }
        return String.join(";", acts);
    }

    private String number(int depth) {
        StringBuilder sum = new StringBuilder();
        int size = 1 + upTo(3);
        for (int i = 0; i < size; i++) {
            if (i > 0) {
                sum.append("+-*/%".charAt(upTo(5)));
            }
            int kind = upTo(8);
            if (kind < 2 && depth > 0) {
                sum.append('[').append(number(depth - 1)).append(']');
            } else if (kind < 4) {
                sum.append(upTo(10) == 0 ? 99000 + upTo(1200) : upTo(7));
            } else {
                sum.append("timsnqrxhy".charAt(upTo(10)));
            }
        }
        return sum.toString();
    }

    private String condition(int depth) {
        StringBuilder whole = new StringBuilder();
        int size = 1 + upTo(3);
        for (int i = 0; i < size; i++) {
            if (i > 0) {
                whole.append("&|".charAt(upTo(2)));
            }
            while (upTo(4) == 0) {
                whole.append('!');
            }
            if (upTo(4) == 0 && depth > 0) {
                whole.append('(').append(condition(depth - 1)).append(')');
            } else {
                whole.append(number(depth / 2)).append("<>=".charAt(upTo(3))).append(number(depth / 2));
            }
        }
        return whole.toString();
    }

    private String newLaw() {
        if (upTo(3) == 0) {
            return LAWS[upTo(LAWS.length)] + ";" + LAWS[upTo(LAWS.length)] + ";" + LAWS[upTo(3)];
        }
        StringBuilder text = new StringBuilder();
        if (upTo(3) > 0) {
            text.append("v").append(number(0)).append("(").append(condition(0)).append(");").append(LAWS[upTo(3)]);
        }
        int size = 1 + upTo(upTo(8) == 0 ? 16 : 6);
        for (int i = 0; i < size; i++) {
            int depth = size > 6 ? 0 : upTo(6);
            String clause = "fpvdw".charAt(upTo(5)) + number(depth) + "("
                    + (upTo(4) == 0 ? "1=1" : condition(depth)) + ")";
            if (text.length() + clause.length() < 200) {
                text.append(text.length() == 0 ? "" : ";").append(clause);
            }
        }
        return text.length() == 0 ? "v1(1=1)" : text.toString();
    }

    /** Now and then a byte is changed, left out or put in. */
    private String spoilt(String text) {
        if (upTo(6) != 0 || text.isEmpty()) {
            return text;
        }
        int at = upTo(text.length() + 1);
        String signs = "abl,;+-~?>.0199()[]!&|<>=*/%tqmz \0\u00e9";
        String sign = signs.substring(upTo(signs.length())).substring(0, 1);
        switch (upTo(4)) {
            case 0:
                return text.substring(0, at) + sign + text.substring(at);
            case 1:
                return at == text.length() ? text : text.substring(0, at) + text.substring(at + 1);
            case 2:
                return text.substring(0, at);
            default:
                return at == text.length() ? text + sign : text.substring(0, at) + sign + text.substring(at + 1);
        }
    }

    /** Feeds a text; answers the n to tell of it. */
    private int feed(String text) {
        if (plain.count(2) != 0) {
            due("check(0, 0)", war.check(0, 0), plain.check(0, 0));
        }
        for (int i = 0; i < text.length(); i += 20) {
            int a = Due.fourBytes(text, i);
            int b = Due.fourBytes(text, i + 4);
            int c = Due.fourBytes(text, i + 8);
            int d = Due.fourBytes(text, i + 12);
            int e = Due.fourBytes(text, i + 16);
            due("feed(.. " + text + " .. " + i + ")", war.feed(a, b, c, d, e), plain.feed(a, b, c, d, e));
        }
        return upTo(40) == 0 ? upTo(230) - 5 : text.length();
    }

    // ---- calls

    private void oneCall() {
        int kind = upTo(100);
        if (kind < 30) {
            textCall(upTo(16));
        } else if (kind < 40) {
            tellingCall(upTo(10));
        } else if (kind < 70) {
            askingCall(upTo(14));
        } else if (kind < 80) {
            learningCall(upTo(12));
        } else if (kind < 90) {
            countCall();
        } else {
            marchCall(upTo(8));
        }
    }

    private void textCall(int kind) {
        int side = aside();
        int s = side == 1 ? 1 : 0;
        if (kind < 1) {
            int n = feed(spoilt(newLexicon(s)));
            due("lexicon(" + side + ", " + n + ")", war.lexicon(side, n), plain.lexicon(side, n));
        } else if (kind < 2) {
            int n = feed(spoilt(newLaw()));
            due("law(" + n + ")", war.law(n), plain.law(n));
        } else if (kind < 10) {
            int n = feed(spoilt(newOrders(s)));
            due("orders(" + side + ", " + n + ")", war.orders(side, n), plain.orders(side, n));
        } else if (kind < 12) {
            int n = feed(spoilt(newOrders(s)));
            due("judged(" + side + ", " + n + ")", war.judged(side, n), plain.judged(side, n));
        } else if (kind < 14) {
            String text = newWord() + ">" + newWord();
            int n = feed(spoilt(text));
            due("fight(" + n + ")", war.fight(n), plain.fight(n));
        } else if (kind < 15) {
            orderCall(side);
        } else {
            checkCall(side, s);
        }
    }

    private void orderCall(int side) {
        StringBuilder left = new StringBuilder("abcdefghijkl");
        StringBuilder bytes = new StringBuilder();
        while (left.length() > 0) {
            int i = upTo(left.length());
            bytes.append((char) (left.charAt(i) - 'a'));
            left.deleteCharAt(i);
        }
        if (upTo(5) == 0) {
            bytes.setCharAt(upTo(12), (char) upTo(14));
        }
        feed(bytes.toString());
        due("order(" + side + ")", war.order(side), plain.order(side));
    }

    private void checkCall(int side, int s) {
        StringBuilder bytes = new StringBuilder();
        for (int l = 0; l < 12; l++) {
            int n = plain.count(100 + 12 * s + l) + (upTo(15) == 0 ? 1 : 0);
            bytes.append((char) 0).append((char) 0).append((char) (n >> 8)).append((char) (n & 255));
        }
        feed(bytes.toString());
        int n = around(13);
        due("check(" + side + ", " + n + ")", war.check(side, n), plain.check(side, n));
    }

    private void tellingCall(int kind) {
        int side = aside();
        int letter = upTo(20) == 0 ? upTo(16) - 2 : upTo(letters);
        if (kind < 5) {
            int n = upTo(25) == 0 ? 990 + upTo(12) : upTo(12) == 0 ? -1 : upTo(2 + longest);
            due("reserve(" + side + ", " + letter + ", " + n + ")",
                    war.reserve(side, letter, n), plain.reserve(side, letter, n));
        } else if (kind < 6) {
            int n = upTo(10) == 0 ? upTo(103) - 2 : upTo(10);
            due("strength(" + letter + ", " + n + ")", war.strength(letter, n), plain.strength(letter, n));
        } else if (kind < 7) {
            int x = upTo(8) == 0 ? upTo(65600) - 20 : upTo(65536);
            due("seed(" + x + ")", war.seed(x), plain.seed(x));
        } else if (kind < 8) {
            due("turn()", war.turn(), plain.turn());
        } else if (upTo(3) == 0) {
            due("keep()", war.keep(), plain.keep());
        } else {
            due("undo()", war.undo(), plain.undo());
        }
    }

    /** Mostly a word of a lexicon. */
    private int someIndex(int side) {
        return around(Math.max(1, plain.words(side == 1 ? 1 : 0).size()));
    }

    private void askingCall(int kind) {
        int side = aside();
        int w = someIndex(side);
        int v = someIndex(1);
        int letter = around(letters);
        int other = around(letters);
        int what = around(kind > 1 && kind < 6 ? 2 : 3);
        switch (kind) {
            case 0:
                int of = upTo(2) == 0 ? upTo(6) : upTo(21);
                due("word(" + side + ", " + w + ", " + of + ")", war.word(side, w, of), plain.word(side, w, of));
                break;
            case 1:
                w = someIndex(0);
                due("beats(" + w + ", " + v + ")", war.beats(w, v), plain.beats(w, v));
                break;
            case 2:
                due("place(" + side + ", " + w + ", " + what + ")", war.place(side, w, what), plain.place(side, w, what));
                break;
            case 3:
            case 4:
                due("best(" + side + ", " + what + ")", war.best(side, what), plain.best(side, what));
                break;
            case 5:
                due("against(" + side + ", " + what + ")", war.against(side, what), plain.against(side, what));
                break;
            case 6:
            case 7:
                due("atOnce(" + what + ")", war.atOnce(what), plain.atOnce(what));
                break;
            case 8:
            case 9:
                int part = around(4);
                due("exchange(" + side + ", " + part + ")", war.exchange(side, part), plain.exchange(side, part));
                break;
            case 10:
                due("exchanged(" + side + ", " + letter + ", " + other + ")",
                        war.exchanged(side, letter, other), plain.exchanged(side, letter, other));
                break;
            case 11:
                int n = around(3);
                due("home(" + letter + ", " + n + ")", war.home(letter, n), plain.home(letter, n));
                break;
            case 12:
                w = someIndex(0);
                int at = upTo(3) == 0 ? 20 : upTo(19) - 1;
                due("peace(" + w + ", " + v + ", " + at + ")", war.peace(w, v, at), plain.peace(w, v, at));
                break;
            default:
                due("spy(" + side + ", " + w + ", " + what + ")", war.spy(side, w, what), plain.spy(side, w, what));
                break;
        }
    }

    private void learningCall(int kind) {
        if (kind < 5) {
            int what = upTo(3) == 0 ? -1 : around(12);
            due("learnt(" + what + ")", war.learnt(what), plain.learnt(what));
        } else if (kind < 9) {
            int a = around(12);
            int b = around(12);
            due("ahead(" + a + ", " + b + ")", war.ahead(a, b), plain.ahead(a, b));
        } else if (kind < 10) {
            if (upTo(4) == 0) {
                int what = around(3);
                due("skirmish(" + what + ")", war.skirmish(what), plain.skirmish(what));
            }
        } else if (kind < 11 && upTo(8) == 0) {
            due("forget()", war.forget(), plain.forget());
        }
    }

    private void countCall() {
        int what = upTo(3) == 0 ? upTo(22) - 1 : upTo(236) - 1;
        due("count(" + what + ")", war.count(what), plain.count(what));
        int side = aside();
        int at = upTo(8) - 3;
        due("dead(" + side + ", " + at + ")", war.dead(side, at), plain.dead(side, at));
    }

    private void marchCall(int kind) {
        if (kind < 5) {
            int i = around(24);
            int letter = around(letters);
            int x = around(16);
            int y = around(16);
            int pace = 1 + around(9);
            due("soldier(" + i + ", " + letter + ", " + x + ", " + y + ", " + pace + ")",
                    war.soldier(i, letter, x, y, pace), plain.soldier(i, letter, x, y, pace));
        } else {
            int side = aside();
            int w = someIndex(side);
            int x = around(14);
            int y = around(16);
            int what = upTo(3) == 0 ? -1 : around(3);
            due("march(" + side + ", " + w + ", " + x + ", " + y + ", " + what + ")",
                    war.march(side, w, x, y, what), plain.march(side, w, x, y, what));
        }
    }
}
