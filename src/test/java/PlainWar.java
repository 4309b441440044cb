import java.util.ArrayList;
import java.util.HashMap;
import java.util.List;
import java.util.Map;

/** The document said again in the plainest way, slow and with the Java library: what WordWar is held against. */
final class PlainWar {
    private static final String ABC = "abcdefghijkl";

    private static final class Fault extends Exception {
        private static final long serialVersionUID = 1L;
        final int answer;

        Fault(int kind, int place) {
            super("fault");
            answer = -1000 * kind - place;
        }
    }

    private static final class Refused extends Exception {
        private static final long serialVersionUID = 1L;

        Refused() {
            super("refused");
        }
    }

    private interface Number {
        int ask(Map<Character, Integer> told) throws Refused;
    }

    private interface Truth {
        boolean ask(Map<Character, Integer> told) throws Refused;
    }

    private record Clause(char letter, Number value, Truth condition) {
    }

    private record Act(char kind, String word, String other, int k, char letter) {
    }

    private static final class Side {
        String order = ABC;
        List<String> lexicon = new ArrayList<>();
        List<String> field = new ArrayList<>();
        Map<Character, Integer> reserve = new HashMap<>();
        Map<Character, Integer> grave = new HashMap<>();
        Map<Character, Integer> prisoners = new HashMap<>();

        Side copy() {
            Side other = new Side();
            other.order = order;
            other.lexicon = new ArrayList<>(lexicon);
            other.field = new ArrayList<>(field);
            other.reserve = new HashMap<>(reserve);
            other.grave = new HashMap<>(grave);
            other.prisoners = new HashMap<>(prisoners);
            return other;
        }

        int bits() {
            int bits = 0;
            for (String word : field) {
                bits |= 1 << lexicon.indexOf(word);
            }
            return bits;
        }
    }

    private record Kept(Side[] sides, int turn, int x, int[][] soldiers, List<String> fights) {
    }

    private String tape = "";
    private Side[] sides = {new Side(), new Side()};
    private final int[] strengths = {1, 1, 1, 1, 1, 1, 1, 1, 1, 1, 1, 1};
    private List<Clause> law = new ArrayList<>();
    private int turn = 0;
    private int x = 1;
    private int[][] soldiers = new int[24][];
    private List<String> fights = new ArrayList<>();
    private Kept kept = null;

    // ---- small things

    private static boolean side(int side) {
        return side == 0 || side == 1;
    }

    private static boolean letter(int letter) {
        return 0 <= letter && letter <= 11;
    }

    private static int of(Map<Character, Integer> heap, char c) {
        return heap.getOrDefault(c, 0);
    }

    private static void put(Map<Character, Integer> heap, char c, int n) {
        heap.put(c, Math.min(999, of(heap, c) + n));
    }

    private static int all(Map<Character, Integer> heap) {
        return heap.values().stream().mapToInt(Integer::intValue).sum();
    }

    private static boolean first(String a, String b, String order) {
        for (int i = 0; i < Math.min(a.length(), b.length()); i++) {
            if (a.charAt(i) != b.charAt(i)) {
                return order.indexOf(a.charAt(i)) < order.indexOf(b.charAt(i));
            }
        }
        return a.length() < b.length();
    }

    private static boolean beaten(String word, String by, Side side) {
        return first(by, word, side.order);
    }

    private int strengthOf(String word) {
        return word.chars().map(c -> strengths[c - 'a']).sum();
    }

    private int draw() {
        x = (int) ((25173L * x + 13849L) % 65536L);
        return x % 10;
    }

    private static boolean covered(String letters, Map<Character, Integer> reserve) {
        for (char c : ABC.toCharArray()) {
            if (letters.chars().filter(l -> l == c).count() > of(reserve, c)) {
                return false;
            }
        }
        return true;
    }

    private int law(char letter, Map<Character, Integer> told) {
        int most = letter == 'v' ? 9999 : letter == 'd' ? 10 : letter == 'w' ? 999 : 8;
        for (Clause clause : law) {
            if (clause.letter != letter) {
                continue;
            }
            boolean holds;
            try {
                holds = clause.condition.ask(told);
            } catch (Refused refused) {
                holds = false;
            }
            if (holds) {
                try {
                    return Math.max(0, Math.min(most, clause.value.ask(told)));
                } catch (Refused refused) {
                    return 0;
                }
            }
        }
        return 0;
    }

    private int worth(int s, String word) {
        return law('v', Map.of('t', turn, 'i', s, 'm', word.length(), 's', strengthOf(word)));
    }

    private static boolean canForm(Side side, String word) {
        return side.lexicon.contains(word) && !side.field.contains(word) && side.field.size() <= 5
                && covered(word, side.reserve);
    }

    private static void toReserve(Side side, String letters) {
        for (char c : letters.toCharArray()) {
            put(side.reserve, c, 1);
        }
    }

    // ---- texts

    private String take(int n, int least, int most) {
        if (n < least || n > most || n > tape.length()) {
            return null;
        }
        String text = tape.substring(0, n);
        tape = "";
        return text;
    }

    private static char at(String text, int i) {
        return i < text.length() ? text.charAt(i) : (char) 1000;
    }

    private static boolean abc(char c) {
        return 'a' <= c && c <= 'l';
    }

    private static String wordAt(String text, int from) throws Fault {
        int end = from;
        while (abc(at(text, end))) {
            if (end - from == 8) {
                throw new Fault(3, end);
            }
            end++;
        }
        if (end == from) {
            throw new Fault(1, from);
        }
        return text.substring(from, end);
    }

    private static List<String> readLexicon(String text) throws Fault {
        List<String> words = new ArrayList<>();
        int i = 0;
        while (true) {
            if (words.size() == 12 && abc(at(text, i))) {
                throw new Fault(4, i);
            }
            String word = wordAt(text, i);
            if (words.contains(word)) {
                throw new Fault(6, i);
            }
            words.add(word);
            i += word.length();
            if (i == text.length()) {
                return words;
            }
            if (at(text, i) != ',') {
                throw new Fault(1, i);
            }
            i++;
        }
    }

    private static List<Act> readActs(String text) throws Fault {
        List<Act> acts = new ArrayList<>();
        int i = 0;
        while (true) {
            char c = at(text, i);
            if ("+-~?".indexOf(c) < 0 && !abc(c)) {
                throw new Fault(1, i);
            }
            if (acts.size() == 12) {
                throw new Fault(4, i);
            }
            if (!abc(c)) {
                i++;
            }
            String word = wordAt(text, i);
            i += word.length();
            if (abc(c)) {
                if (at(text, i) != '>') {
                    throw new Fault(1, i);
                }
                String other = wordAt(text, i + 1);
                i += 1 + other.length();
                acts.add(new Act('>', word, other, 0, 'a'));
            } else if (c == '?') {
                if (at(text, i) != '.') {
                    throw new Fault(1, i);
                }
                char k = at(text, i + 1);
                if (k < '0' || k > '9') {
                    throw new Fault(1, i + 1);
                }
                if (k == '0' || k == '9' || k - '0' > word.length()) {
                    throw new Fault(6, i + 1);
                }
                if (!abc(at(text, i + 2))) {
                    throw new Fault(1, i + 2);
                }
                acts.add(new Act('?', word, "", k - '1', at(text, i + 2)));
                i += 3;
            } else {
                acts.add(new Act(c, word, "", 0, 'a'));
            }
            if (i == text.length()) {
                return acts;
            }
            if (at(text, i) != ';') {
                throw new Fault(1, i);
            }
            i++;
        }
    }

    /** The law's tongue as a tree of things that can be asked. */
    private static final class LawText {
        final String text;
        int i = 0;
        int open = 0;

        LawText(String text) {
            this.text = text;
        }

        char next() {
            return at(text, i);
        }

        void must(char c) throws Fault {
            if (next() != c) {
                throw new Fault(1, i);
            }
            i++;
        }

        void opening() throws Fault {
            if (open == 6) {
                throw new Fault(5, i);
            }
            open++;
            i++;
        }

        List<Clause> clauses() throws Fault {
            List<Clause> clauses = new ArrayList<>();
            while (true) {
                char letter = next();
                if ("fpvdw".indexOf(letter) < 0) {
                    throw new Fault(1, i);
                }
                if (clauses.size() == 14) {
                    throw new Fault(4, i);
                }
                i++;
                Number value = sum();
                if (next() != '(') {
                    throw new Fault(1, i);
                }
                opening();
                Truth condition = condition();
                must(')');
                open--;
                clauses.add(new Clause(letter, value, condition));
                if (i == text.length()) {
                    return clauses;
                }
                must(';');
            }
        }

        Truth condition() throws Fault {
            Truth left = part();
            while (next() == '|') {
                i++;
                Truth a = left;
                Truth b = part();
                left = told -> a.ask(told) || b.ask(told);
            }
            return left;
        }

        Truth part() throws Fault {
            Truth left = piece();
            while (next() == '&') {
                i++;
                Truth a = left;
                Truth b = piece();
                left = told -> a.ask(told) && b.ask(told);
            }
            return left;
        }

        Truth piece() throws Fault {
            if (next() == '!') {
                opening();
                Truth inner = piece();
                open--;
                return told -> !inner.ask(told);
            }
            if (next() == '(') {
                opening();
                Truth inner = condition();
                must(')');
                open--;
                return inner;
            }
            Number a = sum();
            char sign = next();
            if ("<>=".indexOf(sign) < 0) {
                throw new Fault(1, i);
            }
            i++;
            Number b = sum();
            return told -> {
                int left = a.ask(told);
                int right = b.ask(told);
                return sign == '<' ? left < right : sign == '>' ? left > right : left == right;
            };
        }

        Number sum() throws Fault {
            Number left = product();
            while (next() == '+' || next() == '-') {
                char sign = next();
                i++;
                Number a = left;
                Number b = product();
                left = told -> sign == '+' ? a.ask(told) + b.ask(told) : a.ask(told) - b.ask(told);
            }
            return left;
        }

        Number product() throws Fault {
            Number left = factor();
            while (next() == '*' || next() == '/' || next() == '%') {
                char sign = next();
                i++;
                Number a = left;
                Number b = factor();
                left = told -> {
                    int l = a.ask(told);
                    int r = b.ask(told);
                    if (sign != '*' && r == 0) {
                        throw new Refused();
                    }
                    return sign == '*' ? l * r : sign == '/' ? l / r : l % r;
                };
            }
            return left;
        }

        Number factor() throws Fault {
            char c = next();
            if (c == '[') {
                opening();
                Number inner = sum();
                must(']');
                open--;
                return inner;
            }
            if ('0' <= c && c <= '9') {
                int from = i;
                while ('0' <= next() && next() <= '9') {
                    if (i - from == 5) {
                        throw new Fault(2, i);
                    }
                    i++;
                }
                int number = Integer.parseInt(text.substring(from, i));
                return told -> number;
            }
            if ("timsnqrxhy".indexOf(c) < 0) {
                throw new Fault(1, i);
            }
            i++;
            return told -> told.getOrDefault(c, 0);
        }
    }

    // ---- what a test may look at

    List<String> words(int side) {
        return sides[side].lexicon;
    }

    List<String> standing(int side) {
        return sides[side].field;
    }

    // ---- the face

    boolean strength(int letter, int n) {
        if (!letter(letter) || n < 0 || n > 99) {
            return false;
        }
        strengths[letter] = n;
        return true;
    }

    boolean reserve(int side, int letter, int n) {
        if (!side(side) || !letter(letter) || n < 0 || n > 999) {
            return false;
        }
        sides[side].reserve.put(ABC.charAt(letter), n);
        return true;
    }

    int feed(int a, int b, int c, int d, int e) {
        if (tape.length() > 200) {
            return -1;
        }
        StringBuilder more = new StringBuilder(tape);
        for (int number : new int[] {a, b, c, d, e}) {
            more.append((char) (number >>> 24)).append((char) (number >>> 16 & 255));
            more.append((char) (number >>> 8 & 255)).append((char) (number & 255));
        }
        tape = more.toString();
        return tape.length();
    }

    boolean order(int side) {
        if (!side(side) || tape.length() < 12) {
            return false;
        }
        String bytes = take(12, 12, 12);
        StringBuilder order = new StringBuilder();
        for (char c : bytes.toCharArray()) {
            if (c > 11 || order.indexOf(ABC.substring(c, c + 1)) >= 0) {
                return false;
            }
            order.append(ABC.charAt(c));
        }
        sides[side].order = order.toString();
        return true;
    }

    int lexicon(int side, int n) {
        String text = side(side) ? take(n, 1, 160) : null;
        if (text == null) {
            return -1;
        }
        try {
            List<String> words = readLexicon(text);
            sides[side].lexicon = words;
            dissolveStrangers(sides[side]);
            return words.size();
        } catch (Fault fault) {
            return fault.answer;
        }
    }

    private static void dissolveStrangers(Side side) {
        for (String word : new ArrayList<>(side.field)) {
            if (!side.lexicon.contains(word)) {
                side.field.remove(word);
                toReserve(side, word);
            }
        }
    }

    int law(int n) {
        String text = take(n, 1, 200);
        if (text == null) {
            return -1;
        }
        try {
            law = new LawText(text).clauses();
            return law.size();
        } catch (Fault fault) {
            return fault.answer;
        }
    }

    int orders(int side, int n) {
        String text = side(side) ? take(n, 1, 160) : null;
        if (text == null) {
            return -1;
        }
        try {
            int done = 0;
            for (Act act : readActs(text)) {
                done += act(side, act) ? 1 : 0;
            }
            return done;
        } catch (Fault fault) {
            return fault.answer;
        }
    }

    int judged(int side, int n) {
        String text = side(side) ? take(n, 1, 160) : null;
        if (text == null) {
            return -1;
        }
        Side[] before = sides;
        int xBefore = x;
        sides = new Side[] {before[0].copy(), before[1].copy()};
        try {
            List<Act> acts = readActs(text);
            int i = 0;
            while (i < acts.size() && act(side, acts.get(i))) {
                i++;
            }
            return i;
        } catch (Fault fault) {
            return fault.answer;
        } finally {
            sides = before;
            x = xBefore;
        }
    }

    private boolean act(int s, Act act) {
        Side own = sides[s];
        Side other = sides[1 - s];
        switch (act.kind) {
            case '+':
                if (!canForm(own, act.word)) {
                    return false;
                }
                for (char c : act.word.toCharArray()) {
                    put(own.reserve, c, -1);
                }
                own.field.add(act.word);
                return true;
            case '-':
                if (!own.field.remove(act.word)) {
                    return false;
                }
                toReserve(own, act.word);
                return true;
            case '~':
                return becomes(own, act.word, new StringBuilder(act.word).reverse().toString());
            case '?':
                String changed = act.word.substring(0, act.k) + act.letter + act.word.substring(act.k + 1);
                if (of(own.reserve, act.letter) == 0 || !becomes(other, act.word, changed)) {
                    return false;
                }
                put(own.reserve, act.letter, -1);
                put(other.grave, act.word.charAt(act.k), 1);
                return true;
            default:
                return attack(s, act.word, act.other);
        }
    }

    private static boolean becomes(Side side, String word, String other) {
        if (!side.field.contains(word) || !side.lexicon.contains(other) || side.field.contains(other)) {
            return false;
        }
        side.field.remove(word);
        side.field.add(other);
        return true;
    }

    private boolean attack(int s, String word, String other) {
        if (!sides[s].field.contains(word) || !sides[1 - s].field.contains(other)) {
            return false;
        }
        boolean wins = beaten(other, word, sides[1 - s]);
        int l = wins ? 1 - s : s;
        String lost = wins ? other : word;
        String won = wins ? word : other;
        Map<Character, Integer> told = Map.of('t', turn, 'i', l, 'm', lost.length(), 's', strengthOf(lost),
                'n', won.length(), 'q', strengthOf(won), 'r', draw());
        int f = law('f', told);
        int p = law('p', told);
        Side loser = sides[l];
        String rest = lost;
        for (int i = 0; i < f && !rest.isEmpty(); i++) {
            put(loser.grave, rest.charAt(rest.length() - 1), 1);
            rest = rest.substring(0, rest.length() - 1);
        }
        for (int i = 0; i < p && !rest.isEmpty(); i++) {
            put(loser.prisoners, rest.charAt(rest.length() - 1), 1);
            rest = rest.substring(0, rest.length() - 1);
        }
        loser.field.remove(lost);
        if (loser.lexicon.contains(rest) && !loser.field.contains(rest)) {
            loser.field.add(rest);
        } else {
            toReserve(loser, rest);
        }
        return true;
    }

    int turn() {
        int n = 0;
        for (int s = 0; s < 2; s++) {
            for (int l = 0; l < 12; l++) {
                char c = ABC.charAt(l);
                int r = draw();
                int d = law('d', Map.of('t', turn, 'i', s, 'x', l, 'h', of(sides[s].reserve, c)));
                if (r < d && of(sides[s].reserve, c) > 0) {
                    put(sides[s].reserve, c, -1);
                    put(sides[1 - s].reserve, c, 1);
                    n++;
                }
            }
        }
        turn++;
        return n;
    }

    private String wordOf(int side, int w) {
        return w < 0 || w >= sides[side].lexicon.size() ? null : sides[side].lexicon.get(w);
    }

    int word(int side, int w, int what) {
        String word = side(side) ? wordOf(side, w) : null;
        if (word == null) {
            return -1;
        }
        if (what == 0) {
            return word.length();
        }
        if (what == 1) {
            return strengthOf(word);
        }
        if (what == 2) {
            return sides[side].field.contains(word) ? 1 : 0;
        }
        if (what == 3) {
            return canForm(sides[side], word) ? 1 : 0;
        }
        if (what == 4) {
            return worth(side, word);
        }
        return what >= 10 && what - 10 < word.length() ? word.charAt(what - 10) - 'a' : -1;
    }

    private int duel(String word, String other) {
        boolean one = beaten(other, word, sides[1]);
        boolean two = beaten(word, other, sides[0]);
        return one && !two ? 1 : two && !one ? -1 : 0;
    }

    int beats(int w, int v) {
        return wordOf(0, w) == null || wordOf(1, v) == null ? -2 : duel(wordOf(0, w), wordOf(1, v));
    }

    int place(int side, int w, int what) {
        if (!side(side) || wordOf(side, w) == null || what < 0 || what > 1) {
            return -1;
        }
        String order = sides[what == 0 ? side : 1 - side].order;
        return (int) sides[side].lexicon.stream().filter(o -> first(o, wordOf(side, w), order)).count();
    }

    /** Sets that can be formed, by rising bits. */
    private static List<Integer> sets(Side side, Map<Character, Integer> reserve) {
        List<Integer> sets = new ArrayList<>();
        for (int bits = 0; bits < 1 << side.lexicon.size(); bits++) {
            if (Integer.bitCount(bits) + side.field.size() > 6) {
                continue;
            }
            StringBuilder letters = new StringBuilder();
            boolean stands = false;
            for (int w = 0; w < side.lexicon.size(); w++) {
                if ((bits >> w & 1) == 1) {
                    letters.append(side.lexicon.get(w));
                    stands |= side.field.contains(side.lexicon.get(w));
                }
            }
            if (!stands && covered(letters.toString(), reserve)) {
                sets.add(bits);
            }
        }
        return sets;
    }

    private int[] bestOf(int s, Map<Character, Integer> reserve) {
        int n = sides[s].lexicon.size();
        int[] worths = new int[n];
        for (int w = 0; w < n; w++) {
            worths[w] = worth(s, sides[s].lexicon.get(w));
        }
        int[] best = {-1, 0};
        for (int bits : sets(sides[s], reserve)) {
            int sum = 0;
            for (int w = 0; w < n; w++) {
                sum += (bits >> w & 1) * worths[w];
            }
            if (sum > best[0]) {
                best = new int[] {sum, bits};
            }
        }
        return best;
    }

    int best(int side, int what) {
        return !side(side) || what < 0 || what > 1 ? -1 : bestOf(side, sides[side].reserve)[what];
    }

    int against(int side, int what) {
        if (!side(side) || what < 0 || what > 1) {
            return -1;
        }
        Side own = sides[side];
        Side other = sides[1 - side];
        int most = -1;
        int which = 0;
        for (int bits : sets(own, own.reserve)) {
            int n = 0;
            for (String word : other.field) {
                boolean is = false;
                for (int w = 0; w < own.lexicon.size(); w++) {
                    is |= (bits >> w & 1) == 1 && beaten(word, own.lexicon.get(w), other);
                }
                n += is ? 1 : 0;
            }
            if (n > most || n == most && Integer.bitCount(bits) < Integer.bitCount(which)) {
                most = n;
                which = bits;
            }
        }
        return what == 0 ? most : which;
    }

    private int gain(int s, String word, String other) {
        int duel = duel(word, other);
        int zero = duel == 1 ? worth(1, other) : duel == -1 ? -worth(0, word) : 0;
        return s == 0 ? zero : -zero;
    }

    int atOnce(int what) {
        if (what < 0 || what > 2) {
            return -1;
        }
        List<String> mine = sides[0].lexicon.stream().filter(w -> canForm(sides[0], w)).toList();
        List<String> theirs = sides[1].lexicon.stream().filter(w -> canForm(sides[1], w)).toList();
        int n = 0;
        int[] answer = {0, -2, -2};
        for (String w : mine) {
            for (String v : theirs) {
                boolean stay = mine.stream().noneMatch(o -> gain(0, o, v) > gain(0, w, v))
                        && theirs.stream().noneMatch(o -> gain(1, w, o) > gain(1, w, v));
                if (stay && n++ == 0) {
                    answer[1] = sides[0].lexicon.indexOf(w);
                    answer[2] = sides[1].lexicon.indexOf(v);
                }
            }
        }
        answer[0] = n;
        return answer[what];
    }

    int exchange(int side, int what) {
        if (!side(side) || what < 0 || what > 3) {
            return -1;
        }
        Side own = sides[side];
        Side other = sides[1 - side];
        int ownBefore = bestOf(side, own.reserve)[0];
        int otherBefore = bestOf(1 - side, other.reserve)[0];
        int[] answer = {0, -2, -2, -2};
        for (char given : ABC.toCharArray()) {
            for (char gotten : ABC.toCharArray()) {
                if (given == gotten || of(own.reserve, given) == 0 || of(other.reserve, gotten) == 0) {
                    continue;
                }
                Map<Character, Integer> ownReserve = new HashMap<>(own.reserve);
                Map<Character, Integer> otherReserve = new HashMap<>(other.reserve);
                put(ownReserve, given, -1);
                put(ownReserve, gotten, 1);
                put(otherReserve, given, 1);
                put(otherReserve, gotten, -1);
                int ownGain = bestOf(side, ownReserve)[0] - ownBefore;
                int otherGain = bestOf(1 - side, otherReserve)[0] - otherBefore;
                int w = law('w', Map.of('t', turn, 'i', side, 'x', given - 'a', 'y', gotten - 'a'));
                if (ownGain > w && otherGain > 0) {
                    answer[0]++;
                    if (ownGain + otherGain > answer[3]) {
                        answer[1] = given - 'a';
                        answer[2] = gotten - 'a';
                        answer[3] = ownGain + otherGain;
                    }
                }
            }
        }
        return answer[what];
    }

    boolean exchanged(int side, int given, int gotten) {
        if (!side(side) || !letter(given) || !letter(gotten) || given == gotten) {
            return false;
        }
        char g = ABC.charAt(given);
        char h = ABC.charAt(gotten);
        if (of(sides[side].reserve, g) == 0 || of(sides[1 - side].reserve, h) == 0) {
            return false;
        }
        put(sides[side].reserve, g, -1);
        put(sides[1 - side].reserve, h, -1);
        put(sides[side].reserve, h, 1);
        put(sides[1 - side].reserve, g, 1);
        return true;
    }

    boolean home(int letter, int n) {
        if (!letter(letter) || n < 1) {
            return false;
        }
        char c = ABC.charAt(letter);
        if (of(sides[0].prisoners, c) < n || of(sides[1].prisoners, c) < n) {
            return false;
        }
        for (Side side : sides) {
            put(side.prisoners, c, -n);
            put(side.reserve, c, n);
        }
        return true;
    }

    int peace(int w, int v, int what) {
        if (wordOf(0, w) == null || wordOf(1, v) == null) {
            return -1;
        }
        String row = joined(wordOf(0, w), wordOf(1, v), new HashMap<>());
        if (what == 20) {
            return row.length();
        }
        return what >= 0 && what < row.length() ? row.charAt(what) - 'a' : -2;
    }

    private String joined(String a, String b, Map<String, String> known) {
        if (a.isEmpty() || b.isEmpty()) {
            return a + b;
        }
        String key = a + "," + b;
        if (known.containsKey(key)) {
            return known.get(key);
        }
        String best = a.charAt(0) + joined(a.substring(1), a.charAt(0) == b.charAt(0) ? b.substring(1) : b, known);
        String other = b.charAt(0) + joined(a.charAt(0) == b.charAt(0) ? a.substring(1) : a, b.substring(1), known);
        if (other.length() < best.length()
                || other.length() == best.length() && first(other, best, sides[0].order)) {
            best = other;
        }
        known.put(key, best);
        return best;
    }

    private static int unlike(String a, String b) {
        int n = 0;
        for (int i = 0; i < a.length(); i++) {
            n += a.charAt(i) == b.charAt(i) ? 0 : 1;
        }
        return n;
    }

    int spy(int side, int w, int what) {
        if (!side(side) || what < 0 || what > 2 || what == 0 && wordOf(side, w) == null) {
            return -1;
        }
        List<String> lexicon = sides[side].lexicon;
        if (what == 0) {
            int bits = 0;
            for (int v = 0; v < lexicon.size(); v++) {
                if (lexicon.get(v).length() == lexicon.get(w).length() && unlike(lexicon.get(v), lexicon.get(w)) == 1) {
                    bits |= 1 << v;
                }
            }
            return bits;
        }
        int best = 0;
        for (int bits = 0; bits < 1 << lexicon.size(); bits++) {
            boolean bears = true;
            for (int a = 0; a < lexicon.size(); a++) {
                for (int b = 0; b < a; b++) {
                    bears &= (bits >> a & bits >> b & 1) == 0 || lexicon.get(a).length() != lexicon.get(b).length()
                            || unlike(lexicon.get(a), lexicon.get(b)) >= 3;
                }
            }
            if (bears && Integer.bitCount(bits) > Integer.bitCount(best)) {
                best = bits;
            }
        }
        return what == 1 ? Integer.bitCount(best) : best;
    }

    int fight(int n) {
        String text = take(n, 3, 17);
        if (text == null) {
            return -1;
        }
        try {
            String one = wordAt(text, 0);
            if (at(text, one.length()) != '>') {
                throw new Fault(1, one.length());
            }
            String two = wordAt(text, one.length() + 1);
            if (one.length() + 1 + two.length() != text.length()) {
                throw new Fault(1, one.length() + 1 + two.length());
            }
            if (one.startsWith(two) || two.startsWith(one)) {
                return -5000;
            }
            if (fights.size() == 24) {
                throw new Fault(4, 0);
            }
            int i = 0;
            while (one.charAt(i) == two.charAt(i)) {
                i++;
            }
            fights.add("" + one.charAt(i) + two.charAt(i));
            return fights.size();
        } catch (Fault fault) {
            return fault.answer;
        }
    }

    /** Rows of the letters that are left, in each of which no fight is gone against. */
    private static long rows(String left, List<String> fights, Map<String, Long> known) {
        if (left.isEmpty()) {
            return 1;
        }
        Long n = known.get(left);
        if (n == null) {
            n = 0L;
            for (char c : left.toCharArray()) {
                if (fights.stream().noneMatch(f -> f.charAt(1) == c && left.indexOf(f.charAt(0)) >= 0)) {
                    n += rows(left.replace("" + c, ""), fights, known);
                }
            }
            known.put(left, n);
        }
        return n;
    }

    private long rowsWith(String more) {
        List<String> fights = new ArrayList<>(this.fights);
        for (int i = 0; i < more.length(); i += 2) {
            fights.add(more.substring(i, i + 2));
        }
        return rows(ABC, fights, new HashMap<>());
    }

    long learnt(int what) {
        if (what == -1) {
            return rowsWith("");
        }
        if (what < 0 || what > 11) {
            return -3;
        }
        if (rowsWith("") == 0) {
            return -2;
        }
        String left = ABC;
        char next = 'a';
        for (int i = 0; i <= what; i++) {
            for (char c : left.toCharArray()) {
                String l = left;
                if (fights.stream().noneMatch(f -> f.charAt(1) == c && l.indexOf(f.charAt(0)) >= 0)) {
                    next = c;
                    break;
                }
            }
            left = left.replace("" + next, "");
        }
        return next - 'a';
    }

    long ahead(int a, int b) {
        if (!letter(a) || !letter(b) || a == b) {
            return -1;
        }
        return rowsWith("" + ABC.charAt(a) + ABC.charAt(b));
    }

    long skirmish(int what) {
        if (what < 0 || what > 2) {
            return -1;
        }
        long[] answer = {-2, -2, -2};
        for (int a = 0; a < 12; a++) {
            for (int b = a + 1; b < 12; b++) {
                long lesser = Math.min(ahead(a, b), ahead(b, a));
                if (lesser > Math.max(0, answer[2])) {
                    answer = new long[] {a, b, lesser};
                }
            }
        }
        return answer[what];
    }

    int forget() {
        int n = fights.size();
        fights.clear();
        return n;
    }

    boolean soldier(int i, int letter, int x, int y, int pace) {
        if (i < 0 || i > 23 || !letter(letter) || x < 0 || x > 15 || y < 0 || y > 15 || pace < 1 || pace > 9) {
            return false;
        }
        soldiers[i] = new int[] {letter, x, y, pace};
        return true;
    }

    int march(int side, int w, int x, int y, int what) {
        String word = side(side) ? wordOf(side, w) : null;
        if (word == null || x < 0 || y < 0 || y > 15 || x > 16 - word.length() || what < -1 || what >= word.length()) {
            return -3;
        }
        int[] best = new int[word.length() + 1];
        best[word.length()] = 1000;
        tryMarch(word, x, y, new int[word.length()], 0, 0, best);
        int hours = best[word.length()];
        return hours == 1000 ? -2 : what == -1 ? hours : best[what];
    }

    private void tryMarch(String word, int x, int y, int[] who, int k, int hours, int[] best) {
        if (hours >= best[word.length()]) {
            return;
        }
        if (k == word.length()) {
            System.arraycopy(who, 0, best, 0, k);
            best[k] = hours;
            return;
        }
        for (int i = 0; i < 24; i++) {
            boolean free = soldiers[i] != null && soldiers[i][0] == word.charAt(k) - 'a';
            for (int j = 0; j < k; j++) {
                free &= who[j] != i;
            }
            if (free) {
                int way = Math.abs(soldiers[i][1] - x - k) + Math.abs(soldiers[i][2] - y);
                who[k] = i;
                int pace = soldiers[i][3];
                tryMarch(word, x, y, who, k + 1, Math.max(hours, way / pace + (way % pace == 0 ? 0 : 1)), best);
            }
        }
    }

    int dead(int side, int what) {
        if (!side(side) || what < -2) {
            return -3;
        }
        StringBuilder line = new StringBuilder();
        for (char c : sides[side].order.toCharArray()) {
            line.append(("" + c).repeat(of(sides[side].grave, c)));
        }
        if (what == -1) {
            return line.length();
        }
        if (what == -2) {
            int most = 0;
            int run = 0;
            for (int i = 0; i < line.length(); i++) {
                run = i > 0 && line.charAt(i) == line.charAt(i - 1) ? run + 1 : 1;
                most = Math.max(most, run);
            }
            return most;
        }
        return what < line.length() ? line.charAt(what) - 'a' : -3;
    }

    boolean seed(int x) {
        if (x < 0 || x > 65535) {
            return false;
        }
        this.x = x;
        return true;
    }

    int keep() {
        kept = new Kept(new Side[] {sides[0].copy(), sides[1].copy()}, turn, x, soldiers.clone(), new ArrayList<>(fights));
        return all(sides[0].reserve) + all(sides[1].reserve);
    }

    boolean undo() {
        if (kept == null) {
            return false;
        }
        for (int s = 0; s < 2; s++) {
            Side side = kept.sides[s].copy();
            side.order = sides[s].order;
            side.lexicon = sides[s].lexicon;
            sides[s] = side;
            dissolveStrangers(side);
        }
        turn = kept.turn;
        x = kept.x;
        soldiers = kept.soldiers.clone();
        fights = new ArrayList<>(kept.fights);
        return true;
    }

    int check(int side, int n) {
        if (!side(side) || n < 0 || n > 12 || tape.length() < 4 * n) {
            return -2;
        }
        String text = tape;
        tape = "";
        for (int i = 0; i < n; i++) {
            int number = text.charAt(4 * i) << 24 | text.charAt(4 * i + 1) << 16
                    | text.charAt(4 * i + 2) << 8 | text.charAt(4 * i + 3);
            if (number != of(sides[side].reserve, ABC.charAt(i))) {
                return i;
            }
        }
        return -1;
    }

    int count(int what) {
        for (int s = 0; s < 2; s++) {
            Side side = sides[s];
            if (what == 10 + s) {
                return side.lexicon.size();
            }
            if (what == 12 + s) {
                return side.bits();
            }
            if (what == 14 + s) {
                return all(side.reserve);
            }
            if (what == 16 + s) {
                return all(side.grave);
            }
            if (what == 18 + s) {
                return all(side.prisoners);
            }
            for (int l = 0; l < 12; l++) {
                char c = ABC.charAt(l);
                if (what == 100 + 12 * s + l) {
                    return of(side.reserve, c);
                }
                if (what == 130 + 12 * s + l) {
                    return of(side.grave, c);
                }
                if (what == 160 + 12 * s + l) {
                    return of(side.prisoners, c);
                }
                if (what == 190 + 12 * s + l) {
                    return side.order.charAt(l) - 'a';
                }
                if (what == 220 + l) {
                    return strengths[l];
                }
            }
        }
        int told = 0;
        for (int[] soldier : soldiers) {
            told += soldier == null ? 0 : 1;
        }
        int[] first = {turn, law.size(), tape.length(), x, fights.size(), told};
        return what >= 0 && what < 6 ? first[what] : -1;
    }
}
