/** What the tests share: answers that are due, and texts fed to an object. */
final class Due {
    private static int asked = 0;
    private static int wrong = 0;
    private static String about = "";

    private Due() {
    }

    static void is(String call, long got, long want) {
        asked++;
        if (got != want) {
            wrong++;
            System.out.println(about + call + " answered " + got + ", due is " + want);
        }
    }

    /** What stands ahead of each wrong answer from now on. */
    static void setAbout(String newAbout) {
        about = newAbout;
    }

    static int asked() {
        return asked;
    }

    static void is(String call, boolean got, boolean want) {
        is(call, got ? 1L : 0L, want ? 1L : 0L);
    }

    static int wrongOnes() {
        return wrong;
    }

    /** Feeds a text (characters 0 to 255), with z behind it up to twenty bytes each; answers its length. */
    static int text(WordWar war, String text) {
        for (int i = 0; i < text.length(); i += 20) {
            war.feed(fourBytes(text, i), fourBytes(text, i + 4), fourBytes(text, i + 8),
                    fourBytes(text, i + 12), fourBytes(text, i + 16));
        }
        return text.length();
    }

    static int fourBytes(String text, int from) {
        int number = 0;
        for (int i = from; i < from + 4; i++) {
            number = number << 8 | (i < text.length() ? text.charAt(i) & 255 : 'z');
        }
        return number;
    }

    static int lexicon(WordWar war, int side, String text) {
        return war.lexicon(side, text(war, text));
    }

    static int law(WordWar war, String text) {
        return war.law(text(war, text));
    }

    static int orders(WordWar war, int side, String text) {
        return war.orders(side, text(war, text));
    }

    static int judged(WordWar war, int side, String text) {
        return war.judged(side, text(war, text));
    }

    static int fight(WordWar war, String text) {
        return war.fight(text(war, text));
    }

    /** The order is told by letters here. */
    static boolean order(WordWar war, int side, String letters) {
        StringBuilder bytes = new StringBuilder();
        for (int i = 0; i < letters.length(); i++) {
            bytes.append((char) (letters.charAt(i) - 'a'));
        }
        text(war, bytes.toString());
        return war.order(side);
    }

    /** So many of each letter of a text come into a reserve, none of the others. */
    static void reserve(WordWar war, int side, String letters) {
        int[] n = new int[12];
        for (int i = 0; i < letters.length(); i++) {
            n[letters.charAt(i) - 'a']++;
        }
        for (int letter = 0; letter < 12; letter++) {
            war.reserve(side, letter, n[letter]);
        }
    }

    /** An object with lexicons (words with a , between two) of which some stand; the reserves are empty then. */
    static WordWar armed(String lexicon0, String standing0, String lexicon1, String standing1) {
        WordWar war = new WordWar();
        arm(war, 0, lexicon0, standing0);
        arm(war, 1, lexicon1, standing1);
        return war;
    }

    static void arm(WordWar war, int side, String lexicon, String standing) {
        if (!lexicon.isEmpty()) {
            is("lexicon " + lexicon, lexicon(war, side, lexicon), lexicon.split(",").length);
        }
        form(war, side, standing);
    }

    /** Gives a side the letters of these words, and no others, and forms them. */
    static void form(WordWar war, int side, String standing) {
        if (!standing.isEmpty()) {
            reserve(war, side, standing.replace(",", ""));
            is("formed " + standing, orders(war, side, "+" + standing.replace(",", ";+")), standing.split(",").length);
        }
    }

    private static final int[] COUNTED = {0, 6, 10, 20, 100, 124, 130, 154, 160, 184, 190, 214, 220, 232};

    /** All that count() tells, but for the tape: 135 calls. */
    static String state(WordWar war) {
        StringBuilder state = new StringBuilder();
        for (int i = 0; i < COUNTED.length; i += 2) {
            for (int what = COUNTED[i]; what < COUNTED[i + 1]; what++) {
                if (what != 2) {
                    state.append(what).append(':').append(war.count(what)).append(' ');
                }
            }
        }
        return state.toString();
    }

    static void same(String call, String got, String want) {
        is(call + ": " + got + " for " + want, got.equals(want), true);
    }

    static void end() {
        System.out.println(wrong == 0 ? asked + " answers are as due" : wrong + " of " + asked + " answers are not as due");
        if (wrong != 0 || asked == 0) {
            System.exit(1);
        }
    }
}
