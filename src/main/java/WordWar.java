import java.util.Arrays;

/** Two armies of letters: the document ../shared/DOC.md tells what each call answers. */
public final class WordWar {
    public static final int NONE = -1;

    private static final int LETTERS = 12;
    private static final int LONGEST = 8;
    private static final int MOST_WORDS = 12;
    private static final int MOST_STANDING = 6;
    private static final int MOST_HELD = 999;

    // What an army holds of each letter: three rows of twelve behind one another.
    private static final int RESERVE = 0;
    private static final int GRAVE = 12;
    private static final int PRISONERS = 24;

    // The letters of the law's tongue, by their places in "told".
    private static final int T = 0;
    private static final int I = 1;
    private static final int M = 2;
    private static final int S = 3;
    private static final int N = 4;
    private static final int Q = 5;
    private static final int R = 6;
    private static final int X = 7;
    private static final int H = 8;
    private static final int Y = 9;

    private final Tape tape;
    private final Army[] armies;
    private final Chooser[] choosers;
    private final int[] strengths;
    private final Acts acts;
    private final LawReader lawReader;
    private Law law;
    private Law spareLaw;
    private final int[] told;
    private final int[] gains;
    private final Treaty treaty;
    private final Fights fights;
    private final Soldiers soldiers;
    private final Camp[] kept;
    private final Camp[] judging;
    private boolean anyKept;
    private int keptTurns;
    private int keptDrawn;
    private int turns;
    private int drawn;

    public WordWar() {
        tape = new Tape();
        armies = new Army[] {new Army(), new Army()};
        choosers = new Chooser[] {new Chooser(), new Chooser()};
        strengths = new int[LETTERS];
        Arrays.fill(strengths, 1);
        acts = new Acts();
        lawReader = new LawReader();
        law = new Law();
        spareLaw = new Law();
        told = new int[10];
        gains = new int[MOST_WORDS * MOST_WORDS];
        treaty = new Treaty();
        fights = new Fights();
        soldiers = new Soldiers();
        kept = new Camp[] {new Camp(), new Camp()};
        judging = new Camp[] {new Camp(), new Camp()};
        drawn = 1;
    }

    // ---- what is told

    public boolean strength(int letter, int n) {
        if (!isLetter(letter) || n < 0 || n > 99) {
            return false;
        }
        strengths[letter] = n;
        return true;
    }

    public boolean reserve(int side, int letter, int n) {
        if (!isSide(side) || !isLetter(letter) || n < 0 || n > MOST_HELD) {
            return false;
        }
        armies[side].held[RESERVE + letter] = n;
        return true;
    }

    public int feed(int a, int b, int c, int d, int e) {
        if (tape.size + 20 > Tape.MOST) {
            return NONE;
        }
        tape.append(a);
        tape.append(b);
        tape.append(c);
        tape.append(d);
        tape.append(e);
        return tape.size;
    }

    public boolean order(int side) {
        if (!isSide(side) || tape.size < LETTERS) {
            return false;
        }
        tape.open(LETTERS);
        return armies[side].takeOrder(tape);
    }

    public int lexicon(int side, int n) {
        if (!isSide(side) || !tape.holdsText(n, 1, 160)) {
            return NONE;
        }
        tape.open(n);
        return armies[side].takeLexicon(tape);
    }

    public int law(int n) {
        if (!tape.holdsText(n, 1, 200)) {
            return NONE;
        }
        tape.open(n);
        lawReader.read(tape, spareLaw);
        if (tape.fault != 0) {
            return tape.fault;
        }
        Law before = law;
        law = spareLaw;
        spareLaw = before;
        return law.clauses;
    }

    public boolean seed(int x) {
        if (x < 0 || x > 65535) {
            return false;
        }
        drawn = x;
        return true;
    }

    // ---- orders

    public int orders(int side, int n) {
        int refusal = readActs(side, n);
        if (refusal != 0) {
            return refusal;
        }
        int done = 0;
        for (int i = 0; i < acts.size; i++) {
            if (doAct(side, i)) {
                done++;
            }
        }
        return done;
    }

    public int judged(int side, int n) {
        int refusal = readActs(side, n);
        if (refusal != 0) {
            return refusal;
        }
        int drawnBefore = drawn;
        armies[0].saveTo(judging[0]);
        armies[1].saveTo(judging[1]);
        int first = 0;
        while (first < acts.size && doAct(side, first)) {
            first++;
        }
        armies[0].loadFrom(judging[0]);
        armies[1].loadFrom(judging[1]);
        drawn = drawnBefore;
        return first;
    }

    /** 0 if the acts of a side's orders are read; else why they are not: NONE or a fault. */
    private int readActs(int side, int n) {
        if (!isSide(side) || !tape.holdsText(n, 1, 160)) {
            return NONE;
        }
        tape.open(n);
        acts.read(tape);
        return tape.fault;
    }

    public int turn() {
        int deserters = 0;
        for (int side = 0; side < 2; side++) {
            for (int letter = 0; letter < LETTERS; letter++) {
                if (deserts(side, letter)) {
                    armies[side].held[RESERVE + letter]--;
                    armies[1 - side].add(RESERVE, letter, 1);
                    deserters++;
                }
            }
        }
        turns++;
        return deserters;
    }

    private boolean deserts(int side, int letter) {
        int draw = nextDraw();
        int there = armies[side].held[RESERVE + letter];
        tell(side);
        told[X] = letter;
        told[H] = there;
        return draw < law.ask('d', told) && there > 0;
    }

    private int nextDraw() {
        drawn = (25173 * drawn + 13849) & 65535;
        return drawn % 10;
    }

    private boolean doAct(int side, int i) {
        if (!isSide(side) || i < 0 || i >= acts.size) {
            return false;
        }
        Army own = armies[side];
        Army other = armies[1 - side];
        int word = own.find(acts.word[i]);
        switch (acts.kind[i]) {
            case '+':
                return own.form(word);
            case '-':
                return own.dissolve(word);
            case '~':
                return own.replace(word, own.find(Words.backwards(acts.word[i])));
            case '>':
                return attack(side, word, other.find(acts.other[i]));
            default:
                return changeBySpy(own, other, i);
        }
    }

    private boolean changeBySpy(Army own, Army other, int i) {
        int k = acts.other[i] / 16;
        int letter = acts.other[i] % 16;
        int code = acts.word[i];
        int before = Words.letterAt(code, k);
        if (!isLetter(letter) || !isLetter(before) || own.held[RESERVE + letter] < 1) {
            return false;
        }
        if (!other.replace(other.find(code), other.find(Words.changed(code, k, letter)))) {
            return false;
        }
        own.held[RESERVE + letter]--;
        other.add(GRAVE, before, 1);
        return true;
    }

    private boolean attack(int side, int w, int v) {
        Army own = armies[side];
        Army other = armies[1 - side];
        if (!own.stands(w) || !other.stands(v)) {
            return false;
        }
        boolean wins = isAhead(own.words[w], other.words[v], other);
        int winner = wins ? own.words[w] : other.words[v];
        int loser = wins ? other.words[v] : own.words[w];
        tell(wins ? 1 - side : side);
        tellWord(loser);
        told[N] = Words.sizeOf(winner);
        told[Q] = strengthOf(winner);
        told[R] = nextDraw();
        int fall = law.ask('f', told);
        int taken = law.ask('p', told);
        if (wins) {
            other.lose(v, fall, taken);
        } else {
            own.lose(w, fall, taken);
        }
        return true;
    }

    private static boolean isAhead(int code, int other, Army whose) {
        return Words.keyOf(code, whose.rank) < Words.keyOf(other, whose.rank);
    }

    // ---- what the law is told

    private void tell(int side) {
        Arrays.fill(told, 0);
        told[T] = turns;
        told[I] = side;
    }

    private void tellWord(int code) {
        told[M] = Words.sizeOf(code);
        told[S] = strengthOf(code);
    }

    private int strengthOf(int code) {
        int sum = 0;
        for (int k = 0; k < LONGEST; k++) {
            int letter = Words.letterAt(code, k);
            if (isLetter(letter)) {
                sum += strengths[letter];
            }
        }
        return sum;
    }

    private int worthOf(int side, int code) {
        tell(side);
        tellWord(code);
        return law.ask('v', told);
    }

    // ---- words

    public int word(int side, int w, int what) {
        if (!isSide(side) || !armies[side].hasWord(w)) {
            return NONE;
        }
        Army army = armies[side];
        int code = army.words[w];
        switch (what) {
            case 0:
                return Words.sizeOf(code);
            case 1:
                return strengthOf(code);
            case 2:
                return army.stands(w) ? 1 : 0;
            case 3:
                return army.canForm(w) ? 1 : 0;
            case 4:
                return worthOf(side, code);
            default:
                return what < 10 ? NONE : Words.letterAt(code, what - 10);
        }
    }

    public int beats(int w, int v) {
        if (!armies[0].hasWord(w) || !armies[1].hasWord(v)) {
            return -2;
        }
        return outcome(armies[0].words[w], armies[1].words[v]);
    }

    /** 1 if side 0's word beats side 1's and is not beaten, -1 the other way round, else 0. */
    private int outcome(int code, int other) {
        boolean first = isAhead(code, other, armies[1]);
        boolean second = isAhead(other, code, armies[0]);
        if (first == second) {
            return 0;
        }
        return first ? 1 : -1;
    }

    public int place(int side, int w, int what) {
        if (!isSide(side) || !armies[side].hasWord(w) || what < 0 || what > 1) {
            return NONE;
        }
        Army army = armies[side];
        Army whose = what == 0 ? army : armies[1 - side];
        int before = 0;
        for (int i = 0; i < army.size; i++) {
            if (isAhead(army.words[i], army.words[w], whose)) {
                before++;
            }
        }
        return before;
    }

    // ---- words that letters can stand as

    public int best(int side, int what) {
        if (!isSide(side) || what < 0 || what > 1) {
            return NONE;
        }
        prepareChooser(side);
        searchBest(side, NONE, NONE, NONE);
        return what == 0 ? choosers[side].most : choosers[side].bits;
    }

    private void prepareChooser(int side) {
        Army army = armies[side];
        Chooser chooser = choosers[side];
        chooser.clear();
        for (int w = 0; w < army.size; w++) {
            if (!army.stands(w)) {
                int code = army.words[w];
                chooser.offer(w, worthOf(side, code), code);
            }
        }
    }

    /** The most that a side's words are worth once a letter has come and one has gone (NONE: no such letter). */
    private int searchBest(int side, int come, int gone, int floor) {
        Army army = armies[side];
        long low = Words.packed(army.held, 0, come, gone);
        long high = Words.packed(army.held, Words.HALF, come, gone);
        return choosers[side].search(low, high, army.room(), floor);
    }

    public int against(int side, int what) {
        if (!isSide(side) || what < 0 || what > 1) {
            return NONE;
        }
        Army own = armies[side];
        int most = 0;
        int bits = 0;
        // Who stands ahead of others in one dictionary beats all that they beat: one word is as good as many.
        for (int w = 0; w < own.size; w++) {
            if (own.canForm(w)) {
                int beaten = beatenBy(own.words[w], armies[1 - side]);
                if (beaten > most) {
                    most = beaten;
                    bits = 1 << w;
                }
            }
        }
        return what == 0 ? most : bits;
    }

    private static int beatenBy(int code, Army other) {
        int beaten = 0;
        for (int v = 0; v < other.size; v++) {
            if (other.stands(v) && isAhead(code, other.words[v], other)) {
                beaten++;
            }
        }
        return beaten;
    }

    public int atOnce(int what) {
        if (what < 0 || what > 2) {
            return NONE;
        }
        prepareChooser(0);
        prepareChooser(1);
        int mine = armies[0].formable();
        int theirs = armies[1].formable();
        fillGains(mine, theirs);
        int twos = 0;
        int first = -2;
        int second = -2;
        for (int w = 0; w < MOST_WORDS; w++) {
            for (int v = 0; v < MOST_WORDS; v++) {
                if (has(mine, w) && has(theirs, v) && bothStay(w, v, mine, theirs)) {
                    if (twos == 0) {
                        first = w;
                        second = v;
                    }
                    twos++;
                }
            }
        }
        if (what == 0) {
            return twos;
        }
        return what == 1 ? first : second;
    }

    private void fillGains(int mine, int theirs) {
        for (int w = 0; w < MOST_WORDS; w++) {
            for (int v = 0; v < MOST_WORDS; v++) {
                if (has(mine, w) && has(theirs, v)) {
                    gains[w * MOST_WORDS + v] = gainOf(w, v);
                }
            }
        }
    }

    /** What side 0 gains by word w against word v; the choosers know what each is worth. */
    private int gainOf(int w, int v) {
        int outcome = outcome(armies[0].words[w], armies[1].words[v]);
        if (outcome == 0) {
            return 0;
        }
        return outcome > 0 ? choosers[1].worth[v] : -choosers[0].worth[w];
    }

    /** What one side gains the other one loses: side 0 wants more, side 1 wants less. */
    private boolean bothStay(int w, int v, int mine, int theirs) {
        int gain = gains[w * MOST_WORDS + v];
        for (int i = 0; i < MOST_WORDS; i++) {
            if (has(mine, i) && gains[i * MOST_WORDS + v] > gain) {
                return false;
            }
            if (has(theirs, i) && gains[w * MOST_WORDS + i] < gain) {
                return false;
            }
        }
        return true;
    }

    private static boolean has(int bits, int i) {
        return (bits >> i & 1) != 0;
    }

    // ---- exchanges and prisoners

    public int exchange(int side, int what) {
        if (!isSide(side) || what < 0 || what > 3) {
            return NONE;
        }
        prepareChooser(0);
        prepareChooser(1);
        int before = searchBest(side, NONE, NONE, NONE);
        int otherBefore = searchBest(1 - side, NONE, NONE, NONE);
        int twos = 0;
        int most = -2;
        int two = 0;
        for (int i = 0; i < LETTERS * LETTERS; i++) {
            int together = gainTogether(side, i / LETTERS, i % LETTERS, before, otherBefore);
            if (together > 0) {
                twos++;
            }
            if (together > 0 && together > most) {
                most = together;
                two = i;
            }
        }
        switch (what) {
            case 0:
                return twos;
            case 1:
                return twos == 0 ? -2 : two / LETTERS;
            case 2:
                return twos == 0 ? -2 : two % LETTERS;
            default:
                return most;
        }
    }

    /** What both gain together by an exchange, 0 if one of them does not gain. */
    private int gainTogether(int side, int given, int gotten, int before, int otherBefore) {
        if (!canExchange(side, given, gotten)) {
            return 0;
        }
        if (!wants(side, gotten) || !wants(1 - side, given)) {
            return 0;
        }
        tell(side);
        told[X] = given;
        told[Y] = gotten;
        int floor = before + law.ask('w', told);
        int after = searchBest(side, gotten, given, floor);
        if (after <= floor) {
            return 0;
        }
        int otherAfter = searchBest(1 - side, given, gotten, otherBefore);
        if (otherAfter <= otherBefore) {
            return 0;
        }
        return after - before + otherAfter - otherBefore;
    }

    /** Whether one letter more could matter: all words that do not stand need more of it than there is. */
    private boolean wants(int side, int letter) {
        Army army = armies[side];
        int need = 0;
        for (int w = 0; w < army.size; w++) {
            if (!army.stands(w)) {
                need += Words.times(army.words[w], letter);
            }
        }
        return need > army.held[RESERVE + letter];
    }

    private boolean canExchange(int side, int given, int gotten) {
        return given != gotten
                && armies[side].held[RESERVE + given] > 0
                && armies[1 - side].held[RESERVE + gotten] > 0;
    }

    public boolean exchanged(int side, int given, int gotten) {
        if (!isSide(side) || !isLetter(given) || !isLetter(gotten) || !canExchange(side, given, gotten)) {
            return false;
        }
        armies[side].held[RESERVE + given]--;
        armies[1 - side].add(RESERVE, given, 1);
        armies[1 - side].held[RESERVE + gotten]--;
        armies[side].add(RESERVE, gotten, 1);
        return true;
    }

    public boolean home(int letter, int n) {
        if (!isLetter(letter) || n < 1) {
            return false;
        }
        if (armies[0].held[PRISONERS + letter] < n || armies[1].held[PRISONERS + letter] < n) {
            return false;
        }
        for (int side = 0; side < 2; side++) {
            armies[side].held[PRISONERS + letter] -= n;
            armies[side].add(RESERVE, letter, n);
        }
        return true;
    }

    // ---- peace and spies

    public int peace(int w, int v, int what) {
        if (!armies[0].hasWord(w) || !armies[1].hasWord(v)) {
            return NONE;
        }
        treaty.make(armies[0].words[w], armies[1].words[v], armies[0].rank);
        if (what == 20) {
            return treaty.size;
        }
        return treaty.holdsPlace(what) ? treaty.row[what] : -2;
    }

    public int spy(int side, int w, int what) {
        if (!isSide(side) || what < 0 || what > 2) {
            return NONE;
        }
        Army army = armies[side];
        if (what == 0) {
            return army.hasWord(w) ? army.nearTo(w, 1, 1) : NONE;
        }
        Chooser chooser = choosers[side];
        chooser.clear();
        for (int i = 0; i < army.size; i++) {
            chooser.offer(i, 1, 0);
            chooser.clash[i] = army.nearTo(i, 1, 2);
        }
        chooser.search(Words.GUARDS, Words.GUARDS, MOST_WORDS, NONE);
        return what == 1 ? chooser.most : chooser.bits;
    }

    // ---- dictionaries learnt

    public int fight(int n) {
        if (!tape.holdsText(n, 3, 17)) {
            return NONE;
        }
        tape.open(n);
        return fights.take(tape);
    }

    public long learnt(int what) {
        if (what == NONE) {
            return fights.countRows();
        }
        if (!isLetter(what)) {
            return -3;
        }
        return fights.countRows() == 0 ? -2 : fights.firstRowAt(what);
    }

    public long ahead(int a, int b) {
        if (!isLetter(a) || !isLetter(b) || a == b) {
            return -1;
        }
        return fights.rowsWith(a, b);
    }

    public long skirmish(int what) {
        if (what < 0 || what > 2) {
            return NONE;
        }
        long most = 0;
        int pair = 0;
        for (int a = 0; a < LETTERS; a++) {
            for (int b = a + 1; b < LETTERS; b++) {
                long lesser = Math.min(fights.rowsWith(a, b), fights.rowsWith(b, a));
                if (lesser > most) {
                    most = lesser;
                    pair = a * LETTERS + b;
                }
            }
        }
        if (most == 0) {
            return -2;
        }
        if (what == 2) {
            return most;
        }
        return what == 0 ? pair / LETTERS : pair % LETTERS;
    }

    public int forget() {
        return fights.drop();
    }

    // ---- soldiers and the dead

    public boolean soldier(int i, int letter, int x, int y, int pace) {
        if (i < 0 || i >= Soldiers.MOST || !isLetter(letter) || !isOnNet(x) || !isOnNet(y)) {
            return false;
        }
        if (pace < 1 || pace > 9) {
            return false;
        }
        soldiers.enlist(i, letter, x, y, pace);
        return true;
    }

    public int march(int side, int w, int x, int y, int what) {
        if (!isSide(side) || !armies[side].hasWord(w) || !isOnNet(x) || !isOnNet(y)) {
            return -3;
        }
        int code = armies[side].words[w];
        int size = Words.sizeOf(code);
        if (!isOnNet(x + size - 1) || what < NONE || what >= size) {
            return -3;
        }
        if (!soldiers.assemble(code, x, y)) {
            return -2;
        }
        return what == NONE ? soldiers.hours : soldiers.who[what];
    }

    private static boolean isOnNet(int x) {
        return x >= 0 && x < 16;
    }

    public int dead(int side, int what) {
        if (!isSide(side) || what < -2) {
            return -3;
        }
        Army army = armies[side];
        if (what == NONE) {
            return army.total(GRAVE);
        }
        if (what == -2) {
            return army.mostAlike(GRAVE);
        }
        int letter = army.letterInLine(GRAVE, what);
        return letter == NONE ? -3 : letter;
    }

    // ---- kept and undone

    public int keep() {
        armies[0].saveTo(kept[0]);
        armies[1].saveTo(kept[1]);
        fights.save();
        soldiers.save();
        keptTurns = turns;
        keptDrawn = drawn;
        anyKept = true;
        return armies[0].total(RESERVE) + armies[1].total(RESERVE);
    }

    public boolean undo() {
        if (!anyKept) {
            return false;
        }
        armies[0].loadFrom(kept[0]);
        armies[1].loadFrom(kept[1]);
        fights.load();
        soldiers.load();
        turns = keptTurns;
        drawn = keptDrawn;
        return true;
    }

    public int check(int side, int n) {
        if (!isSide(side) || n < 0 || n > LETTERS || tape.size < 4 * n) {
            return -2;
        }
        tape.open(4 * n);
        for (int letter = 0; letter < n; letter++) {
            if (tape.takeNumber() != armies[side].held[RESERVE + letter]) {
                return letter;
            }
        }
        return NONE;
    }

    public int count(int what) {
        if (what >= 220 && what < 220 + LETTERS) {
            return strengths[what - 220];
        }
        if (what >= 190 && what < 190 + 2 * LETTERS) {
            return armies[(what - 190) / LETTERS].row[(what - 190) % LETTERS];
        }
        if (what >= 160) {
            return countHeld(PRISONERS, what - 160);
        }
        if (what >= 130) {
            return countHeld(GRAVE, what - 130);
        }
        if (what >= 100) {
            return countHeld(RESERVE, what - 100);
        }
        if (what >= 10) {
            return countOfSide(what);
        }
        switch (what) {
            case 0:
                return turns;
            case 1:
                return law.clauses;
            case 2:
                return tape.size;
            case 3:
                return drawn;
            case 4:
                return fights.size;
            case 5:
                return soldiers.enlisted();
            default:
                return NONE;
        }
    }

    private int countHeld(int kind, int i) {
        if (i < 0 || i >= 2 * LETTERS) {
            return NONE;
        }
        return armies[i / LETTERS].held[kind + i % LETTERS];
    }

    private int countOfSide(int what) {
        Army army = armies[what & 1];
        switch (what & ~1) {
            case 10:
                return army.size;
            case 12:
                return army.field;
            case 14:
                return army.total(RESERVE);
            case 16:
                return army.total(GRAVE);
            case 18:
                return army.total(PRISONERS);
            default:
                return NONE;
        }
    }

    private static boolean isSide(int side) {
        return side == 0 || side == 1;
    }

    private static boolean isLetter(int letter) {
        return letter >= 0 && letter < LETTERS;
    }

    /** The bytes that were fed, and a text of them that is being read. */
    private static final class Tape {
        static final int MOST = 220;

        final int[] bytes = new int[MOST];
        int size;
        int at;
        int end;
        int fault;

        void append(int number) {
            for (int shift = 24; shift >= 0 && size < MOST; shift -= 8) {
                bytes[size] = number >>> shift & 255;
                size++;
            }
        }

        boolean holdsText(int n, int least, int most) {
            return n >= least && n <= most && n <= size;
        }

        /** The first n bytes are read from now on; the tape itself is empty. */
        void open(int n) {
            at = 0;
            end = Math.min(n, MOST);
            fault = 0;
            size = 0;
        }

        /** The byte that comes next, NONE at the end. */
        int peek() {
            return at >= 0 && at < end && at < MOST ? bytes[at] : NONE;
        }

        boolean atEnd() {
            return at >= end;
        }

        boolean atLetter() {
            return isLetter(peek() - 'a');
        }

        boolean atDigit() {
            return peek() >= '0' && peek() <= '9';
        }

        void fail(int kind, int where) {
            if (fault == 0) {
                fault = -1000 * kind - where;
            }
        }

        /** Goes beyond a byte that must stand here. */
        boolean pass(int sign) {
            if (peek() == sign) {
                at++;
                return true;
            }
            fail(1, at);
            return false;
        }

        int takeByte() {
            int next = peek();
            at++;
            return next;
        }

        int takeNumber() {
            int number = 0;
            for (int i = 0; i < 4; i++) {
                number = number << 8 | takeByte() & 255;
            }
            return number;
        }

        int takeLetter() {
            if (!atLetter()) {
                fail(1, at);
                return 0;
            }
            return takeByte() - 'a';
        }

        /** A word's code; 0 with a fault. */
        int takeWord() {
            int code = Words.changed(0, 0, takeLetter());
            for (int k = 1; k <= LONGEST && fault == 0 && atLetter(); k++) {
                if (k == LONGEST) {
                    fail(3, at);
                } else {
                    code = Words.changed(code, k, takeLetter());
                }
            }
            return fault == 0 ? code : 0;
        }
    }

    /** A word is an int, its code: four bits a letter, the first letter lowest, 1 for a; 0 behind the last one. */
    private static final class Words {
        static final int HALF = 6;
        static final long GUARDS = 0x808080808080L;

        static int letterAt(int code, int k) {
            return k >= 0 && k < LONGEST ? (code >>> 4 * k & 15) - 1 : NONE;
        }

        static int changed(int code, int k, int letter) {
            return code & ~(15 << 4 * k) | letter + 1 << 4 * k;
        }

        static int sizeOf(int code) {
            int size = 0;
            while (size < LONGEST && letterAt(code, size) != NONE) {
                size++;
            }
            return size;
        }

        static int firstOf(int code, int size) {
            return size >= LONGEST ? code : code & (1 << 4 * size) - 1;
        }

        static int backwards(int code) {
            int size = sizeOf(code);
            int turned = 0;
            for (int k = 0; k < size; k++) {
                turned = changed(turned, size - 1 - k, letterAt(code, k));
            }
            return turned;
        }

        /** Of two words the one with the lesser key stands first in the dictionary of these ranks. */
        static long keyOf(int code, int[] rank) {
            long key = 0;
            for (int k = 0; k < LONGEST; k++) {
                int letter = letterAt(code, k);
                key = key << 4 | (isLetter(letter) ? rank[letter] + 1 : 0);
            }
            return key;
        }

        static int times(int code, int letter) {
            int times = 0;
            for (int k = 0; k < LONGEST; k++) {
                if (letterAt(code, k) == letter) {
                    times++;
                }
            }
            return times;
        }

        static int unlike(int code, int other) {
            int unlike = 0;
            for (int k = 0; k < LONGEST; k++) {
                if (letterAt(code, k) != letterAt(other, k)) {
                    unlike++;
                }
            }
            return unlike;
        }

        /** How often a word has each of six letters from one on, eight bits each. */
        static long needs(int code, int from) {
            long needs = 0;
            for (int k = 0; k < LONGEST; k++) {
                int i = letterAt(code, k) - from;
                if (i >= 0 && i < HALF) {
                    needs += 1L << 8 * i;
                }
            }
            return needs;
        }

        /**
         * How many of each of six letters are in a reserve, eight bits each. The highest bit of each is a
         * guard: what is taken away must leave it. No set of words needs as many as 100 of a letter.
         */
        static long packed(int[] held, int from, int come, int gone) {
            long packed = GUARDS;
            for (int i = 0; i < HALF; i++) {
                int letter = from + i;
                int there = isLetter(letter) ? held[RESERVE + letter] : 0;
                if (letter == come) {
                    there++;
                }
                if (letter == gone) {
                    there--;
                }
                packed += (long) Math.max(0, Math.min(there, 100)) << 8 * i;
            }
            return packed;
        }
    }

    /** What of a side is kept: what it holds, and the words that stand. */
    private static final class Camp {
        final int[] held = new int[3 * LETTERS];
        final int[] standing = new int[MOST_STANDING];
        int size;
    }

    /** One side. */
    private static final class Army {
        final int[] row = new int[LETTERS];
        final int[] rank = new int[LETTERS];
        final int[] held = new int[3 * LETTERS];
        final int[] words = new int[MOST_WORDS];
        final int[] newWords = new int[MOST_WORDS];
        private final Camp moving = new Camp();
        int size;
        int field;

        Army() {
            for (int letter = 0; letter < LETTERS; letter++) {
                row[letter] = letter;
                rank[letter] = letter;
            }
        }

        boolean takeOrder(Tape text) {
            int seen = 0;
            for (int i = 0; i < LETTERS; i++) {
                int letter = text.takeByte();
                if (!isLetter(letter) || has(seen, letter)) {
                    return false;
                }
                seen |= 1 << letter;
            }
            text.at = 0;
            for (int i = 0; i < LETTERS; i++) {
                int letter = text.takeByte();
                if (isLetter(letter)) {
                    row[i] = letter;
                    rank[letter] = i;
                }
            }
            return true;
        }

        int takeLexicon(Tape text) {
            for (int n = 0; n <= MOST_WORDS; n++) {
                int start = text.at;
                if (n == MOST_WORDS && text.atLetter()) {
                    text.fail(4, start);
                }
                int code = text.takeWord();
                if (text.fault == 0 && indexOf(newWords, n, code) != NONE) {
                    text.fail(6, start);
                }
                if (text.fault != 0 || n == MOST_WORDS) {
                    return text.fault;
                }
                newWords[n] = code;
                if (text.atEnd()) {
                    adopt(n + 1);
                    return size;
                }
                text.pass(',');
            }
            return text.fault;
        }

        /** The words that stand go on standing by the new words' numbers. */
        private void adopt(int newSize) {
            saveTo(moving);
            System.arraycopy(newWords, 0, words, 0, MOST_WORDS);
            size = newSize;
            loadFrom(moving);
        }

        void saveTo(Camp camp) {
            System.arraycopy(held, 0, camp.held, 0, held.length);
            camp.size = 0;
            for (int w = 0; w < size; w++) {
                if (stands(w) && camp.size < MOST_STANDING) {
                    camp.standing[camp.size] = words[w];
                    camp.size++;
                }
            }
        }

        void loadFrom(Camp camp) {
            System.arraycopy(camp.held, 0, held, 0, held.length);
            field = 0;
            for (int i = 0; i < camp.size && i < MOST_STANDING; i++) {
                int w = find(camp.standing[i]);
                if (w == NONE) {
                    sendHome(camp.standing[i]);
                } else {
                    field |= 1 << w;
                }
            }
        }

        int find(int code) {
            return indexOf(words, size, code);
        }

        private static int indexOf(int[] codes, int n, int code) {
            for (int w = 0; w < n && w < codes.length; w++) {
                if (codes[w] == code) {
                    return w;
                }
            }
            return NONE;
        }

        boolean hasWord(int w) {
            return w >= 0 && w < size && w < MOST_WORDS;
        }

        boolean stands(int w) {
            return hasWord(w) && has(field, w);
        }

        /** How many words more may stand. */
        int room() {
            return MOST_STANDING - Integer.bitCount(field);
        }

        boolean canForm(int w) {
            if (!hasWord(w) || stands(w) || room() < 1) {
                return false;
            }
            for (int k = 0; k < LONGEST; k++) {
                int letter = Words.letterAt(words[w], k);
                if (isLetter(letter) && held[RESERVE + letter] < Words.times(words[w], letter)) {
                    return false;
                }
            }
            return true;
        }

        int formable() {
            int bits = 0;
            for (int w = 0; w < size; w++) {
                if (canForm(w)) {
                    bits |= 1 << w;
                }
            }
            return bits;
        }

        boolean form(int w) {
            if (!canForm(w)) {
                return false;
            }
            for (int k = 0; k < LONGEST; k++) {
                int letter = Words.letterAt(words[w], k);
                if (isLetter(letter)) {
                    held[RESERVE + letter]--;
                }
            }
            field |= 1 << w;
            return true;
        }

        boolean dissolve(int w) {
            if (!stands(w)) {
                return false;
            }
            field &= ~(1 << w);
            sendHome(words[w]);
            return true;
        }

        /** A word that stands becomes another one that does not. */
        boolean replace(int w, int other) {
            if (!stands(w) || !hasWord(other) || stands(other)) {
                return false;
            }
            field = field & ~(1 << w) | 1 << other;
            return true;
        }

        /** Letters from the end of a word on fall, others are taken; the rest stands on or is routed. */
        void lose(int w, int fall, int taken) {
            if (!stands(w) || fall + taken < 1) {
                return;
            }
            int code = words[w];
            int whole = Words.sizeOf(code);
            int fallFrom = Math.max(0, whole - fall);
            int takenFrom = Math.max(0, fallFrom - taken);
            for (int k = takenFrom; k < whole; k++) {
                add(k < fallFrom ? PRISONERS : GRAVE, Words.letterAt(code, k), 1);
            }
            field &= ~(1 << w);
            int rest = Words.firstOf(code, takenFrom);
            int other = find(rest);
            if (other != NONE && !stands(other)) {
                field |= 1 << other;
            } else {
                sendHome(rest);
            }
        }

        private void sendHome(int code) {
            for (int k = 0; k < LONGEST; k++) {
                add(RESERVE, Words.letterAt(code, k), 1);
            }
        }

        /** What would be above the most is lost. */
        void add(int kind, int letter, int n) {
            if (isLetter(letter)) {
                held[kind + letter] = Math.min(MOST_HELD, held[kind + letter] + n);
            }
        }

        int total(int kind) {
            int sum = 0;
            for (int letter = 0; letter < LETTERS; letter++) {
                sum += held[kind + letter];
            }
            return sum;
        }

        int mostAlike(int kind) {
            int most = 0;
            for (int letter = 0; letter < LETTERS; letter++) {
                most = Math.max(most, held[kind + letter]);
            }
            return most;
        }

        /** All of a kind stand in one line by the order: the letter at a place of it, or NONE. */
        int letterInLine(int kind, int where) {
            int passed = 0;
            for (int i = 0; i < LETTERS; i++) {
                passed += held[kind + row[i]];
                if (where < passed) {
                    return row[i];
                }
            }
            return NONE;
        }

        /** The words of like length of which so many letters are unlike (bits). */
        int nearTo(int w, int least, int most) {
            int bits = 0;
            for (int v = 0; v < size; v++) {
                int unlike = Words.unlike(words[w], words[v]);
                boolean alikeLong = Words.sizeOf(words[w]) == Words.sizeOf(words[v]);
                if (alikeLong && unlike >= least && unlike <= most) {
                    bits |= 1 << v;
                }
            }
            return bits;
        }
    }

    /** Orders as they were read: of each act its kind, its word, and what else it tells. */
    private static final class Acts {
        static final int MOST = 12;

        final int[] kind = new int[MOST];
        final int[] word = new int[MOST];
        final int[] other = new int[MOST];
        int size;

        void read(Tape text) {
            size = 0;
            for (int i = 0; i <= MOST && text.fault == 0; i++) {
                if (i > 0 && text.atEnd()) {
                    return;
                }
                if (i > 0) {
                    text.pass(';');
                }
                if (i == MOST && text.fault == 0 && canBegin(text)) {
                    text.fail(4, text.at);
                }
                readAct(text);
            }
        }

        private static boolean canBegin(Tape text) {
            int sign = text.peek();
            return text.atLetter() || sign == '+' || sign == '-' || sign == '~' || sign == '?';
        }

        private void readAct(Tape text) {
            if (text.fault != 0 || !canBegin(text) || size >= MOST) {
                text.fail(1, text.at);
                return;
            }
            int sign = text.atLetter() ? '>' : text.takeByte();
            kind[size] = sign;
            word[size] = text.takeWord();
            other[size] = 0;
            if (sign == '>' && text.fault == 0 && text.pass('>')) {
                other[size] = text.takeWord();
            }
            if (sign == '?' && text.fault == 0 && text.pass('.')) {
                other[size] = takeChange(text, Words.sizeOf(word[size]));
            }
            size++;
        }

        /** Sixteen times the changed place (0 on) and the letter that comes there. */
        private static int takeChange(Tape text, int wordSize) {
            int k = text.peek() - '0';
            if (!text.atDigit()) {
                text.fail(1, text.at);
            } else if (k < 1 || k > wordSize) {
                text.fail(6, text.at);
            } else {
                text.at++;
                return (k - 1) * 16 + text.takeLetter();
            }
            return 0;
        }
    }

    /** The law as steps of a small machine with a stack; each clause has a row for its E and one for its C. */
    private static final class Law {
        static final int MOST_CLAUSES = 14;
        static final int MOST_STEPS = 256;

        static final int END = 0;
        static final int NUMBER = 1;
        static final int TOLD = 2;
        static final int NOT = 3;
        static final int IF_SO = 4;
        static final int IF_NOT = 5;
        // The signs of two numbers: by 6 + their places in this text.
        static final int FIRST_SIGN = 6;
        static final String SIGNS = "+-*/%<>=";

        final int[] letters = new int[MOST_CLAUSES];
        final int[] values = new int[MOST_CLAUSES];
        final int[] conditions = new int[MOST_CLAUSES];
        int clauses;
        final int[] steps = new int[MOST_STEPS];
        int size;
        final int[] stack = new int[64];
        int depth;
        boolean refused;

        void clear() {
            clauses = 0;
            size = 0;
        }

        /** A step is its kind in the lowest four bits and its number above them. */
        void put(int kind, int number) {
            if (size < MOST_STEPS) {
                steps[size] = kind | number << 4;
                size++;
            }
        }

        /** A jump whose aim is not known yet tells, as its number, the one put ahead of it for the same aim (1 on). */
        int putJump(int kind, int jumpBefore) {
            put(kind, jumpBefore + 1);
            return size - 1;
        }

        void aimHere(int lastJump) {
            int jump = lastJump;
            for (int i = 0; i < MOST_STEPS && jump >= 0 && jump < size; i++) {
                int jumpBefore = (steps[jump] >>> 4) - 1;
                steps[jump] = steps[jump] & 15 | size << 4;
                jump = jumpBefore;
            }
        }

        /** What the first clause of a letter that holds says, within its bounds. */
        int ask(int letter, int[] told) {
            for (int i = 0; i < clauses && i < MOST_CLAUSES; i++) {
                if (letters[i] == letter && run(conditions[i], told) != 0) {
                    return Math.max(0, Math.min(mostOf(letter), run(values[i], told)));
                }
            }
            return 0;
        }

        private static int mostOf(int letter) {
            switch (letter) {
                case 'v':
                    return 9999;
                case 'd':
                    return 10;
                case 'w':
                    return 999;
                default:
                    return LONGEST;
            }
        }

        /** What a row of steps comes to; 0 if it is refused. */
        private int run(int from, int[] told) {
            depth = 0;
            refused = false;
            int at = from;
            for (int i = 0; i < MOST_STEPS && at >= 0 && at < size && !refused; i++) {
                int kind = steps[at] & 15;
                int number = steps[at] >>> 4;
                at++;
                if (kind == END) {
                    return pop();
                }
                if (kind == IF_SO || kind == IF_NOT) {
                    int holds = pop();
                    boolean jumps = (holds != 0) == (kind == IF_SO);
                    if (jumps) {
                        push(holds);
                        at = number;
                    }
                } else {
                    step(kind, number, told);
                }
            }
            return 0;
        }

        private void step(int kind, int number, int[] told) {
            if (kind == NUMBER) {
                push(number);
            } else if (kind == TOLD) {
                push(number < told.length ? told[number] : 0);
            } else if (kind == NOT) {
                push(1 - pop());
            } else {
                int right = pop();
                int left = pop();
                push(reckon(kind - FIRST_SIGN, left, right));
            }
        }

        private int reckon(int sign, int left, int right) {
            switch (sign) {
                case 0:
                    return left + right;
                case 1:
                    return left - right;
                case 2:
                    return left * right;
                case 3:
                case 4:
                    if (right == 0) {
                        refused = true;
                        return 0;
                    }
                    return sign == 3 ? left / right : left % right;
                case 5:
                    return left < right ? 1 : 0;
                case 6:
                    return left > right ? 1 : 0;
                default:
                    return left == right ? 1 : 0;
            }
        }

        private void push(int number) {
            if (depth >= 0 && depth < stack.length) {
                stack[depth] = number;
                depth++;
            }
        }

        private int pop() {
            if (depth < 1 || depth > stack.length) {
                return 0;
            }
            depth--;
            return stack[depth];
        }
    }

    /** Reads a law's text into steps. "open" is how many of ( [ ! are open, MOST_OPEN at most. */
    private static final class LawReader {
        static final int MOST_OPEN = 6;
        static final int MOST_BYTES = 200;
        static final String CLAUSE_LETTERS = "fpvdw";
        static final String TOLD_LETTERS = "timsnqrxhy";

        private Tape text;
        private Law target;

        void read(Tape newText, Law newTarget) {
            text = newText;
            target = newTarget;
            target.clear();
            for (int i = 0; i <= Law.MOST_CLAUSES && text.fault == 0; i++) {
                if (i > 0 && text.atEnd()) {
                    return;
                }
                if (i > 0) {
                    text.pass(';');
                }
                readClause();
            }
        }

        private void readClause() {
            int letter = text.peek();
            if (text.fault != 0 || placeOf(CLAUSE_LETTERS, letter) == NONE) {
                text.fail(1, text.at);
                return;
            }
            int i = target.clauses;
            if (i >= Law.MOST_CLAUSES) {
                text.fail(4, text.at);
                return;
            }
            text.at++;
            target.letters[i] = letter;
            target.values[i] = target.size;
            readSum(0);
            target.put(Law.END, 0);
            if (text.fault == 0 && text.pass('(')) {
                target.conditions[i] = target.size;
                readCondition(1);
                target.put(Law.END, 0);
                text.pass(')');
            }
            target.clauses++;
        }

        private void readCondition(int open) {
            int jump = NONE;
            readPart(open);
            for (int i = 0; i < MOST_BYTES && text.fault == 0 && text.peek() == '|'; i++) {
                text.at++;
                jump = target.putJump(Law.IF_SO, jump);
                readPart(open);
            }
            target.aimHere(jump);
        }

        private void readPart(int open) {
            int jump = NONE;
            readPiece(open);
            for (int i = 0; i < MOST_BYTES && text.fault == 0 && text.peek() == '&'; i++) {
                text.at++;
                jump = target.putJump(Law.IF_NOT, jump);
                readPiece(open);
            }
            target.aimHere(jump);
        }

        private void readPiece(int open) {
            int first = text.peek();
            if (first == '!' || first == '(') {
                if (opens(open)) {
                    readOpened(first, open + 1);
                }
                return;
            }
            readSum(open);
            int sign = text.peek();
            if (text.fault != 0 || placeOf("<>=", sign) == NONE) {
                text.fail(1, text.at);
                return;
            }
            text.at++;
            readSum(open);
            putSign(sign);
        }

        private void readOpened(int first, int open) {
            if (first == '!') {
                readPiece(open);
                target.put(Law.NOT, 0);
            } else {
                readCondition(open);
                text.pass(')');
            }
        }

        private void readSum(int open) {
            readProduct(open);
            for (int i = 0; i < MOST_BYTES && text.fault == 0 && placeOf("+-", text.peek()) != NONE; i++) {
                int sign = text.takeByte();
                readProduct(open);
                putSign(sign);
            }
        }

        private void readProduct(int open) {
            readFactor(open);
            for (int i = 0; i < MOST_BYTES && text.fault == 0 && placeOf("*/%", text.peek()) != NONE; i++) {
                int sign = text.takeByte();
                readFactor(open);
                putSign(sign);
            }
        }

        private void readFactor(int open) {
            int told = placeOf(TOLD_LETTERS, text.peek());
            if (text.peek() == '[') {
                if (opens(open)) {
                    readSum(open + 1);
                    text.pass(']');
                }
            } else if (text.atDigit()) {
                readNumber();
            } else if (told != NONE) {
                text.at++;
                target.put(Law.TOLD, told);
            } else {
                text.fail(1, text.at);
            }
        }

        private void readNumber() {
            int number = 0;
            for (int i = 0; i < 5 && text.atDigit(); i++) {
                number = number * 10 + text.takeByte() - '0';
            }
            if (text.atDigit()) {
                text.fail(2, text.at);
            }
            target.put(Law.NUMBER, number);
        }

        /** Goes beyond one of ( [ ! if one more may be open; nothing is read behind a fault. */
        private boolean opens(int open) {
            if (text.fault == 0 && open >= MOST_OPEN) {
                text.fail(5, text.at);
            }
            if (text.fault != 0) {
                return false;
            }
            text.at++;
            return true;
        }

        private void putSign(int sign) {
            target.put(Law.FIRST_SIGN + placeOf(Law.SIGNS, sign), 0);
        }

        private static int placeOf(String signs, int sign) {
            for (int i = 0; i < signs.length(); i++) {
                if (signs.charAt(i) == sign) {
                    return i;
                }
            }
            return NONE;
        }
    }

    /** Searches sets of words by rising bits, so that of like ones the first one found has the least bits. */
    private static final class Chooser {
        static final int WIDTH = MOST_WORDS + 1;

        final int[] worth = new int[MOST_WORDS];
        final int[] clash = new int[MOST_WORDS];
        final long[] low = new long[MOST_WORDS];
        final long[] high = new long[MOST_WORDS];
        // What the words up to one can bring at most, by how many may still come.
        final int[] bound = new int[MOST_WORDS * WIDTH];
        int offered;
        int usable;
        int most;
        int bits;

        void clear() {
            offered = 0;
            Arrays.fill(clash, 0);
        }

        void offer(int w, int itsWorth, int code) {
            if (w >= 0 && w < MOST_WORDS) {
                offered |= 1 << w;
                worth[w] = itsWorth;
                low[w] = Words.needs(code, 0);
                high[w] = Words.needs(code, Words.HALF);
            }
        }

        /** The most that a set is worth, if that is above a floor; else the floor. */
        int search(long lowStock, long highStock, int room, int floor) {
            usable = 0;
            for (int w = 0; w < MOST_WORDS; w++) {
                if (has(offered, w) && fits(lowStock - low[w], highStock - high[w])) {
                    usable |= 1 << w;
                }
            }
            int places = Math.max(0, Math.min(room, MOST_WORDS));
            fillBounds(places);
            most = floor;
            bits = 0;
            choose(MOST_WORDS - 1, places, lowStock, highStock, 0, 0);
            return most;
        }

        private static boolean fits(long lowStock, long highStock) {
            return (lowStock & highStock & Words.GUARDS) == Words.GUARDS;
        }

        private void fillBounds(int places) {
            for (int w = 0; w < MOST_WORDS; w++) {
                int itsWorth = has(usable, w) ? worth[w] : 0;
                int at = w * WIDTH;
                bound[at] = 0;
                for (int room = 1; room <= places && room < WIDTH; room++) {
                    int without = w == 0 ? 0 : bound[at - WIDTH + room];
                    int with = itsWorth + (w == 0 ? 0 : bound[at - WIDTH + room - 1]);
                    bound[at + room] = Math.max(without, with);
                }
            }
        }

        /** Words above w are chosen already; one level a word. */
        private void choose(int w, int room, long lowStock, long highStock, int sum, int chosen) {
            if (sum > most) {
                most = sum;
                bits = chosen;
            }
            if (w < 0 || room < 1 || sum + bound[w * WIDTH + room] <= most) {
                return;
            }
            choose(w - 1, room, lowStock, highStock, sum, chosen);
            if (has(usable, w) && (clash[w] & chosen) == 0) {
                long lowLeft = lowStock - low[w];
                long highLeft = highStock - high[w];
                if (fits(lowLeft, highLeft)) {
                    choose(w - 1, room - 1, lowLeft, highLeft, sum + worth[w], chosen | 1 << w);
                }
            }
        }
    }

    /** The shortest row in which two words are, the first one by an order. */
    private static final class Treaty {
        static final int WIDTH = LONGEST + 1;

        final int[] row = new int[2 * LONGEST];
        int size;
        // How long a row must be for what is left of both words.
        private final int[] left = new int[WIDTH * WIDTH];

        boolean holdsPlace(int where) {
            return where >= 0 && where < size && where < row.length;
        }

        void make(int code, int other, int[] rank) {
            int ends = Words.sizeOf(code);
            int otherEnds = Words.sizeOf(other);
            fillLeft(code, other, ends, otherEnds);
            size = 0;
            int i = 0;
            int j = 0;
            while (size < row.length && (i < ends || j < otherEnds)) {
                int a = Words.letterAt(code, i);
                int b = Words.letterAt(other, j);
                boolean first = takesFirst(i, j, ends, otherEnds, isLetter(a) && isLetter(b) && rank[a] < rank[b]);
                row[size] = a == b || first ? a : b;
                size++;
                if (a == b || first) {
                    i++;
                }
                if (a == b || !first) {
                    j++;
                }
            }
        }

        private void fillLeft(int code, int other, int ends, int otherEnds) {
            for (int i = ends; i >= 0; i--) {
                for (int j = otherEnds; j >= 0; j--) {
                    left[i * WIDTH + j] = leftAt(code, other, i, j, ends, otherEnds);
                }
            }
        }

        private int leftAt(int code, int other, int i, int j, int ends, int otherEnds) {
            if (i >= ends) {
                return otherEnds - j;
            }
            if (j >= otherEnds) {
                return ends - i;
            }
            if (Words.letterAt(code, i) == Words.letterAt(other, j)) {
                return 1 + left[(i + 1) * WIDTH + j + 1];
            }
            return 1 + Math.min(left[(i + 1) * WIDTH + j], left[i * WIDTH + j + 1]);
        }

        /** Whether, of unlike letters, the first word's comes next. */
        private boolean takesFirst(int i, int j, int ends, int otherEnds, boolean lower) {
            if (i >= ends || j >= otherEnds) {
                return i < ends;
            }
            int byFirst = left[(i + 1) * WIDTH + j];
            int bySecond = left[i * WIDTH + j + 1];
            return byFirst == bySecond ? lower : byFirst < bySecond;
        }
    }

    /** The fights that were told, and the orders ("rows") by which all of them went so. */
    private static final class Fights {
        static final int MOST = 24;
        static final int SETS = 1 << LETTERS;

        int size;
        private int keptSize;
        private final int[] pairs = new int[MOST];
        private final int[] keptPairs = new int[MOST];
        // By a letter: the letters that must stand ahead of it (bits).
        private final int[] must = new int[LETTERS];
        // By a set of letters: rows of these that may stand first, rows of the others that may follow.
        // A letter may follow a set that has all its "must" and not itself.
        private final int[] begun = new int[SETS];
        private final int[] ended = new int[SETS];
        private final long[] rows = new long[LETTERS * LETTERS];
        private boolean counted;
        private boolean compared;

        int take(Tape text) {
            int winner = text.takeWord();
            int loser = text.fault == 0 && text.pass('>') ? text.takeWord() : 0;
            if (text.fault == 0 && !text.atEnd()) {
                text.fail(1, text.at);
            }
            if (text.fault != 0) {
                return text.fault;
            }
            int k = 0;
            while (k < LONGEST && Words.letterAt(winner, k) == Words.letterAt(loser, k)) {
                k++;
            }
            int first = Words.letterAt(winner, k);
            int second = Words.letterAt(loser, k);
            if (!isLetter(first) || !isLetter(second)) {
                return -5000;
            }
            if (size >= MOST) {
                return -4000;
            }
            pairs[size] = first * LETTERS + second;
            size++;
            change();
            return size;
        }

        int drop() {
            int before = size;
            size = 0;
            change();
            return before;
        }

        void save() {
            System.arraycopy(pairs, 0, keptPairs, 0, MOST);
            keptSize = size;
        }

        void load() {
            System.arraycopy(keptPairs, 0, pairs, 0, MOST);
            size = keptSize;
            change();
        }

        private void change() {
            counted = false;
            compared = false;
        }

        long countRows() {
            if (!counted) {
                fillMust();
                fillBegun();
                counted = true;
            }
            return begun[SETS - 1];
        }

        private void fillMust() {
            Arrays.fill(must, 0);
            for (int i = 0; i < size && i < MOST; i++) {
                int first = pairs[i] / LETTERS;
                int second = pairs[i] % LETTERS;
                must[second] |= 1 << first;
            }
        }

        private void fillBegun() {
            Arrays.fill(begun, 0);
            begun[0] = 1;
            for (int set = 0; set < SETS; set++) {
                int ways = begun[set];
                for (int letter = 0; letter < LETTERS && ways != 0; letter++) {
                    int bit = 1 << letter;
                    if ((set & bit | must[letter] & ~set) == 0) {
                        begun[set | bit] += ways;
                    }
                }
            }
        }

        private void fillEnded() {
            Arrays.fill(ended, 0);
            ended[SETS - 1] = 1;
            for (int set = SETS - 2; set >= 0; set--) {
                int ways = 0;
                for (int letter = 0; letter < LETTERS && begun[set] != 0; letter++) {
                    int bit = 1 << letter;
                    if ((set & bit | must[letter] & ~set) == 0) {
                        ways += ended[set | bit];
                    }
                }
                ended[set] = ways;
            }
        }

        /** The letter at a place of the least row, if there is a row. */
        int firstRowAt(int where) {
            int set = 0;
            int next = NONE;
            for (int i = 0; i <= where && i < LETTERS; i++) {
                next = NONE;
                for (int letter = 0; letter < LETTERS && next == NONE; letter++) {
                    if ((set & 1 << letter | must[letter] & ~set) == 0) {
                        next = letter;
                    }
                }
                if (next != NONE) {
                    set |= 1 << next;
                }
            }
            return next;
        }

        /** How many rows have letter a ahead of letter b. */
        long rowsWith(int a, int b) {
            long all = countRows();
            if (!compared) {
                fillEnded();
                fillRows();
                compared = true;
            }
            return a < b ? rows[a * LETTERS + b] : all - rows[b * LETTERS + a];
        }

        /** For a lower than b: all rows in which a follows a set without b. */
        private void fillRows() {
            Arrays.fill(rows, 0);
            for (int set = 0; set < SETS; set++) {
                int ways = begun[set];
                for (int a = 0; a < LETTERS && ways != 0; a++) {
                    int bit = 1 << a;
                    if ((set & bit | must[a] & ~set) == 0) {
                        addRows(set, a, (long) ways * ended[set | bit]);
                    }
                }
            }
        }

        private void addRows(int set, int a, long n) {
            for (int b = a + 1; b < LETTERS; b++) {
                if ((set >> b & 1) == 0) {
                    rows[a * LETTERS + b] += n;
                }
            }
        }
    }

    /** Soldiers on the net, and who of them march into a word. */
    private static final class Soldiers {
        static final int MOST = 24;
        static final int LONGEST_WAY = 30;

        int hours;
        final int[] who = new int[LONGEST];
        // Of each soldier: letter, x, y, pace; no pace: there is none.
        private final int[] roll = new int[4 * MOST];
        private final int[] keptRoll = new int[4 * MOST];
        private final int[] needed = new int[LONGEST * MOST];
        private final int[] reach = new int[LONGEST];
        private final int[] taken = new int[MOST];
        private int seen;

        void enlist(int i, int letter, int x, int y, int pace) {
            if (i >= 0 && i < MOST) {
                roll[4 * i] = letter;
                roll[4 * i + 1] = x;
                roll[4 * i + 2] = y;
                roll[4 * i + 3] = pace;
            }
        }

        int enlisted() {
            int n = 0;
            for (int i = 0; i < MOST; i++) {
                if (roll[4 * i + 3] > 0) {
                    n++;
                }
            }
            return n;
        }

        void save() {
            System.arraycopy(roll, 0, keptRoll, 0, roll.length);
        }

        void load() {
            System.arraycopy(keptRoll, 0, roll, 0, roll.length);
        }

        boolean assemble(int code, int x, int y) {
            int size = Words.sizeOf(code);
            for (int k = 0; k < size; k++) {
                for (int i = 0; i < MOST; i++) {
                    needed[k * MOST + i] = hoursTo(i, Words.letterAt(code, k), x + k, y);
                }
            }
            for (hours = 0; hours <= LONGEST_WAY; hours++) {
                fillReach(size);
                if (canFill(0, size, 0)) {
                    chooseWho(size);
                    return true;
                }
            }
            return false;
        }

        /** How long a soldier needs to a place; longer than any if it is not his. */
        private int hoursTo(int i, int letter, int x, int y) {
            int pace = roll[4 * i + 3];
            if (pace < 1 || roll[4 * i] != letter) {
                return LONGEST_WAY + 1;
            }
            int way = Math.abs(roll[4 * i + 1] - x) + Math.abs(roll[4 * i + 2] - y);
            return (way + pace - 1) / pace;
        }

        private void fillReach(int size) {
            for (int k = 0; k < size; k++) {
                reach[k] = 0;
                for (int i = 0; i < MOST; i++) {
                    if (needed[k * MOST + i] <= hours) {
                        reach[k] |= 1 << i;
                    }
                }
            }
        }

        private void chooseWho(int size) {
            int used = 0;
            for (int k = 0; k < size; k++) {
                int next = NONE;
                for (int i = 0; i < MOST && next == NONE; i++) {
                    if (has(reach[k] & ~used, i) && canFill(k + 1, size, used | 1 << i)) {
                        next = i;
                    }
                }
                who[k] = next;
                if (next != NONE) {
                    used |= 1 << next;
                }
            }
        }

        /** Whether the letters from one on can all have a soldier of their own who is not used. */
        private boolean canFill(int from, int size, int used) {
            Arrays.fill(taken, NONE);
            for (int k = from; k < size; k++) {
                seen = used;
                if (!settle(k, 0)) {
                    return false;
                }
            }
            return true;
        }

        /** Gives letter k a soldier; one who has a letter already leaves it if that finds another one. */
        private boolean settle(int k, int depth) {
            if (k < 0 || k >= LONGEST || depth > LONGEST) {
                return false;
            }
            for (int i = 0; i < MOST; i++) {
                if (has(reach[k] & ~seen, i)) {
                    seen |= 1 << i;
                    if (taken[i] == NONE || settle(taken[i], depth + 1)) {
                        taken[i] = k;
                        return true;
                    }
                }
            }
            return false;
        }
    }
}
